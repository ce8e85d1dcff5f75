/**
 * The sentences of the document on how a night goes that name a boundary case (the moon, the seven steps, and the
 * promise 14), each by a test of its own. What is due was reckoned by hand.
 */
public final class BoundaryNightsTest {
    public static void main(String[] args) {
        moon();
        lamps();
        whispers();
        views();
        jars();
        warden();
        growth();
        nights();
        Check.end();
    }

    /** One night with these fireflies, from above, in a column of an inn; they are then as it returns. */
    private static String afterANight(FireflyInn inn, int x, int... many) {
        Inns.setColumn(inn, x, many);
        inn.pass(1);
        return Inns.column(inn, x);
    }

    private static void moon() {
        Check.each(
            BoundaryNightsTest::moonByTheRemainderOf8,
            BoundaryNightsTest::moonInTheLastNights);
    }

    private static void moonByTheRemainderOf8() {
        int[] light = {0, 1, 2, 3, 4, 3, 2, 1, 0, 1, 2, 3, 4, 3, 2, 1, 0, 1};
        FireflyInn inn = new FireflyInn();
        for (int night = 0; night < light.length; night++) {
            Check.same("terms: the moon in the night " + night, inn.count(1), light[night]);
            inn.pass(1);
        }
    }

    private static void moonInTheLastNights() {
        FireflyInn inn = new FireflyInn();
        for (int call = 1; call <= 480; call++) {
            inn.pass(60);
        }
        int[] light = {0, 1, 2, 3, 4, 3, 2, 1, 0};
        for (int n = 0; n < light.length; n++) {
            Check.same("terms: the moon in the night " + (28_800 + n), inn.count(1), light[n]);
            inn.pass(1);
        }
        Check.same("step 7: the night then", inn.count(0), 28_809);
        FireflyInn last = new FireflyInn();
        for (int call = 1; call <= 511; call++) {
            last.pass(60);
        }
        Check.same("terms: the moon in the night 30660, the last that can be asked", last.count(1), 4);
    }

    private static void lamps() {
        Check.each(
            BoundaryNightsTest::lampsDriveHalfCut,
            BoundaryNightsTest::lampsDriveToTheLeft,
            BoundaryNightsTest::lampsOtherwiseDriveToTheRight,
            BoundaryNightsTest::withoutSuchACellTheyStayBetween,
            BoundaryNightsTest::withoutSuchACellTheyStayAtTheLeftEnd,
            BoundaryNightsTest::withoutSuchACellTheyStayAtTheRightEnd,
            BoundaryNightsTest::withoutSuchACellTheyStayIfAllIsLit,
            BoundaryNightsTest::lampsDriveAllAtOnce,
            BoundaryNightsTest::lampsDriveNoneInADarkColumn,
            BoundaryNightsTest::moreThan40AreLostInTheStep1,
            BoundaryNightsTest::moreThan40FromBothSidesAreLostInTheStep1,
            BoundaryNightsTest::lampsWithoutFireflies);
    }

    private static void lampsDriveHalfCut() {
        FireflyInn few = Inns.withRooms(5);
        Check.same("step 1: half of few, cut, stay", afterANight(few, 4, 0, 1, 2, 3, 19), "0 1 1 2 10");
        Check.same("step 1: half of few, cut, go", Inns.column(few, 3), "0 0 1 1 9");
        FireflyInn many = Inns.withRooms(5);
        Check.same("step 1: half of many, cut, stay", afterANight(many, 4, 0, 16, 17, 39, 40), "0 8 9 20 20");
        // The dark column grows by a tenth, from 19 to 20 and from 20 to 22.
        Check.same("step 1: half of many, cut, go", Inns.column(many, 3), "0 8 8 20 22");
    }

    private static void lampsDriveToTheLeft() {
        FireflyInn inn = Inns.withRooms(5);
        inn.swarm(4, 0, 8);
        inn.pass(1);
        Check.same("step 1: to the left", Inns.row(inn, 0), "0 0 0 4 4 0 0 0 0 0");
        FireflyInn end = Inns.withRooms(2);
        end.swarm(1, 4, 8);
        end.pass(1);
        Check.same("step 1: to the left end", Inns.row(end, 4), "4 4 0 0 0 0 0 0 0 0");
    }

    private static void lampsOtherwiseDriveToTheRight() {
        FireflyInn inn = Inns.withRooms(5);
        inn.swarm(6, 0, 8);
        inn.pass(1);
        Check.same("step 1: to the right", Inns.row(inn, 0), "0 0 0 0 0 0 4 4 0 0");
        FireflyInn end = Inns.withRooms(7);
        end.swarm(8, 4, 8);
        end.pass(1);
        Check.same("step 1: to the right end", Inns.row(end, 4), "0 0 0 0 0 0 0 0 4 4");
    }

    private static void withoutSuchACellTheyStayBetween() {
        Check.same("step 1: between lit columns", afterANight(Inns.withRooms(5), 5, 40, 20, 2, 1, 0), "40 20 2 1 0");
        Check.same("step 1: between windows", afterANight(Inns.withRooms(3, 6), 4, 40, 20, 2, 1, 0), "40 20 2 1 0");
    }

    private static void withoutSuchACellTheyStayAtTheLeftEnd() {
        FireflyInn inn = Inns.withRooms(0);
        Check.same("step 1: at the left end", afterANight(inn, 0, 8, 8, 8, 8, 8), "8 8 8 8 8");
        Check.same("step 1: not to the other end", Inns.column(inn, 9), "0 0 0 0 0");
        FireflyInn beside = Inns.withRooms(0);
        Check.same("step 1: beside the left end", afterANight(beside, 1, 8, 0, 0, 0, 8), "4 0 0 0 4");
        Check.same("step 1: those go to the right", Inns.column(beside, 2), "4 0 0 0 4");
    }

    private static void withoutSuchACellTheyStayAtTheRightEnd() {
        FireflyInn inn = Inns.withRooms(9);
        Check.same("step 1: at the right end", afterANight(inn, 9, 8, 8, 8, 8, 8), "8 8 8 8 8");
        Check.same("step 1: not to the other end", Inns.column(inn, 0), "0 0 0 0 0");
        FireflyInn beside = Inns.withRooms(9);
        Check.same("step 1: beside the right end", afterANight(beside, 8, 8, 0, 0, 0, 8), "4 0 0 0 4");
        Check.same("step 1: those go to the left", Inns.column(beside, 7), "4 0 0 0 4");
    }

    private static void withoutSuchACellTheyStayIfAllIsLit() {
        FireflyInn inn = Inns.withRooms(1, 4, 7, 9);
        for (int x = 0; x < 10; x++) {
            inn.swarm(x, 2, 40 - x);
        }
        inn.pass(60);
        Check.same("step 1: all is lit", Inns.row(inn, 2), "40 39 38 37 36 35 34 33 32 31");
    }

    private static void lampsDriveAllAtOnce() {
        // Lit are 1 to 3 and 5 to 7: those of 3 and of 5 meet in 4 and go no farther, those in 0, 4 and 8 stay.
        FireflyInn inn = Inns.withRooms(2, 6);
        int[] many = {1, 4, 7, 6, 1, 8, 5, 2, 3, 9};
        for (int x = 0; x < 10; x++) {
            inn.swarm(x, 3, many[x]);
        }
        inn.pass(1);
        Check.same("step 1: by what was before", Inns.row(inn, 3), "3 2 7 3 8 4 5 1 4 9");
        Check.same("step 1: none is lost", inn.count(2), 46);
        inn.swarm(4, 3, 0);
        inn.pass(1);
        Check.same("step 1: the night behind it", Inns.row(inn, 3), "4 1 7 2 3 2 5 1 4 9");
    }

    private static void lampsDriveNoneInADarkColumn() {
        FireflyInn inn = Inns.withRooms(5);
        for (int x = 0; x < 10; x++) {
            inn.swarm(x, 0, x >= 4 && x <= 6 ? 0 : 9);
        }
        inn.pass(60);
        Check.same("step 1: dark columns", Inns.row(inn, 0), "9 9 9 9 0 0 0 9 9 9");
        FireflyInn out = Inns.withDarkRooms(5);
        Check.same("step 1: a lamp that is out", afterANight(out, 4, 9, 8, 7, 6, 5), "9 8 7 6 5");
        FireflyInn none = new FireflyInn();
        Check.same("step 1: no room", afterANight(none, 4, 9, 8, 7, 6, 5), "9 8 7 6 5");
    }

    /** What a guest in the dark beside the lamp sees of a cell with so many, when 20 are driven into it. */
    private static int seenBesideALamp(int many) {
        FireflyInn inn = Inns.withRooms(5, 2);
        inn.lamp(1);
        inn.stay(1, 0, false);
        inn.swarm(4, 0, 40);
        inn.swarm(3, 0, many);
        return inn.pass(1);
    }

    private static void moreThan40AreLostInTheStep1() {
        Check.same("step 1: 39 in a cell", seenBesideALamp(19), 39);
        Check.same("step 1: 40 in a cell", seenBesideALamp(20), 40);
        Check.same("step 1: of 41 in a cell 1 is lost", seenBesideALamp(21), 40);
        Check.same("step 1: of 60 in a cell 20 are lost", seenBesideALamp(40), 40);
    }

    /** What a guest in the dark between two lamps sees: 20 each stay left and right, 20 each come to so many. */
    private static int seenBetweenLamps(int many, int right) {
        FireflyInn inn = Inns.withRooms(2, 6, 4);
        inn.lamp(2);
        inn.stay(2, 0, false);
        inn.swarm(3, 4, 40);
        inn.swarm(4, 4, many);
        inn.swarm(5, 4, right);
        return inn.pass(1);
    }

    private static void moreThan40FromBothSidesAreLostInTheStep1() {
        Check.same("step 1: 39 from both sides", seenBetweenLamps(0, 38), 20 + 39 + 19);
        Check.same("step 1: 40 from both sides", seenBetweenLamps(0, 40), 20 + 40 + 20);
        Check.same("step 1: 41 from both sides", seenBetweenLamps(1, 40), 20 + 40 + 20);
        Check.same("step 1: 80 from both sides", seenBetweenLamps(40, 40), 20 + 40 + 20);
    }

    private static void lampsWithoutFireflies() {
        FireflyInn inn = Inns.withRooms(0, 4, 9);
        Check.same("step 1: without fireflies", inn.pass(60), 0);
        Check.same("step 1: there are none then", inn.count(2), 0);
    }

    private static void whispers() {
        Check.each(
            BoundaryNightsTest::loudIsMoreThan9,
            BoundaryNightsTest::loudByThoseWhoStay,
            BoundaryNightsTest::loudByTheGuestsOfTheRoomAlone,
            BoundaryNightsTest::loudAsItIsHushed,
            BoundaryNightsTest::loudByAllGuests,
            BoundaryNightsTest::whispersFromY3UpTo0,
            BoundaryNightsTest::whispersAsFarAsThereIsRoom,
            BoundaryNightsTest::whispersInTheColumnOfTheWindow,
            BoundaryNightsTest::whispersRoomByRoom,
            BoundaryNightsTest::whispersAtTheEnds,
            BoundaryNightsTest::whispersFindTheRoomThatLampsMade);
    }

    /** A room whose guests whisper like this; its column is lit and between lit ones, so that none move or grow. */
    private static FireflyInn whispering(int... whispers) {
        FireflyInn inn = Inns.withRooms(5, 0);
        for (int whisper : whispers) {
            inn.stay(0, whisper, false);
        }
        return inn;
    }

    private static void loudIsMoreThan9() {
        Check.same("step 2: 9 of one", afterANight(whispering(9), 5, 5, 0, 0, 0, 0), "5 0 0 0 0");
        Check.same("step 2: 9 and 0", afterANight(whispering(9, 0), 5, 5, 0, 0, 0, 0), "5 0 0 0 0");
        Check.same("step 2: 9 of three", afterANight(whispering(4, 3, 2), 5, 5, 0, 0, 0, 0), "5 0 0 0 0");
        Check.same("step 2: 9 and 1", afterANight(whispering(9, 1), 5, 5, 0, 0, 0, 0), "0 5 0 0 0");
        Check.same("step 2: 10 of three", afterANight(whispering(4, 3, 3), 5, 5, 0, 0, 0, 0), "0 5 0 0 0");
        Check.same("step 2: nobody", afterANight(whispering(), 5, 5, 0, 0, 0, 0), "5 0 0 0 0");
        Check.same("step 2: 0 of two", afterANight(whispering(0, 0), 5, 5, 0, 0, 0, 0), "5 0 0 0 0");
    }

    private static void loudByThoseWhoStay() {
        FireflyInn quiet = whispering(9, 1);
        quiet.leave(1);
        Check.same("step 2: one of two has left", afterANight(quiet, 5, 5, 0, 0, 0, 0), "5 0 0 0 0");
        FireflyInn loud = whispering(9, 9, 1);
        loud.leave(0);
        Check.same("step 2: two of three are loud", afterANight(loud, 5, 5, 0, 0, 0, 0), "0 5 0 0 0");
    }

    private static void loudByTheGuestsOfTheRoomAlone() {
        FireflyInn apart = whispering(9, 1);
        apart.move(1, 1);
        Check.same("step 2: in two rooms", afterANight(apart, 5, 5, 0, 0, 0, 0), "5 0 0 0 0");
        apart.move(1, 0);
        Check.same("step 2: in one room again", afterANight(apart, 5, 5, 0, 0, 0, 0), "0 5 0 0 0");
        FireflyInn alike = Inns.withRooms(5, 5);
        alike.stay(0, 9, false);
        alike.stay(1, 1, false);
        Check.same("step 2: two rooms at one window", afterANight(alike, 5, 5, 0, 0, 0, 0), "5 0 0 0 0");
    }

    private static void loudAsItIsHushed() {
        FireflyInn inn = whispering(9, 1);
        inn.hush(1, 0);
        Check.same("step 2: hushed to 9", afterANight(inn, 5, 5, 0, 0, 0, 0), "5 0 0 0 0");
        inn.hush(1, 1);
        Check.same("step 2: 10 again", afterANight(inn, 5, 5, 0, 0, 0, 0), "0 5 0 0 0");
    }

    private static void loudByAllGuests() {
        FireflyInn loudest = whispering(9, 9, 9, 9, 9, 9, 9, 9, 9, 9, 9, 9);
        Check.same("step 2: 108 go down by one too", afterANight(loudest, 5, 5, 0, 0, 0, 0), "0 5 0 0 0");
        FireflyInn all = whispering(0, 0, 0, 0, 0, 0, 0, 0, 0, 0, 0, 9);
        Check.same("step 2: 9 of twelve", afterANight(all, 5, 5, 0, 0, 0, 0), "5 0 0 0 0");
        all.hush(0, 1);
        Check.same("step 2: 10 of the first and the last", afterANight(all, 5, 5, 0, 0, 0, 0), "0 5 0 0 0");
    }

    private static void whispersFromY3UpTo0() {
        Check.same("step 2: from y 3 up", afterANight(whispering(9, 1), 5, 1, 2, 3, 4, 5), "0 1 2 3 9");
        Check.same("step 2: y 4 stays", afterANight(whispering(9, 1), 5, 0, 0, 0, 0, 7), "0 0 0 0 7");
        Check.same("step 2: y 3 goes", afterANight(whispering(9, 1), 5, 0, 0, 0, 7, 0), "0 0 0 0 7");
        Check.same("step 2: y 0 goes", afterANight(whispering(9, 1), 5, 7, 0, 0, 0, 0), "0 7 0 0 0");
        Check.same("step 2: none there", afterANight(whispering(9, 1), 5, 0, 0, 0, 0, 0), "0 0 0 0 0");
    }

    private static void whispersAsFarAsThereIsRoom() {
        Check.same("step 2: to 39", afterANight(whispering(9, 1), 5, 0, 0, 0, 9, 30), "0 0 0 0 39");
        Check.same("step 2: to 40", afterANight(whispering(9, 1), 5, 0, 0, 0, 10, 30), "0 0 0 0 40");
        Check.same("step 2: one stays", afterANight(whispering(9, 1), 5, 0, 0, 0, 11, 30), "0 0 0 1 40");
        Check.same("step 2: all of 40", afterANight(whispering(9, 1), 5, 0, 0, 0, 40, 0), "0 0 0 0 40");
        Check.same("step 2: into a full one", afterANight(whispering(9, 1), 5, 0, 0, 0, 7, 40), "0 0 0 7 40");
        Check.same("step 2: all full", afterANight(whispering(9, 1), 5, 40, 40, 40, 40, 40), "40 40 40 40 40");
        Check.same("step 2: room for one", afterANight(whispering(9, 1), 5, 40, 40, 40, 40, 39), "39 40 40 40 40");
        Check.same("step 2: in the middle", afterANight(whispering(9, 1), 5, 30, 15, 40, 40, 40), "5 40 40 40 40");
    }

    private static void whispersInTheColumnOfTheWindow() {
        FireflyInn inn = Inns.withDarkRooms(5, 0);
        inn.stay(0, 9, false);
        inn.stay(0, 1, false);
        for (int x = 0; x < 10; x++) {
            inn.swarm(x, 1, 7);
        }
        inn.pass(1);
        Check.same("step 2: those beside stay", Inns.row(inn, 1), "7 7 7 7 7 0 7 7 7 7");
        Check.same("step 2: those of the window go", Inns.row(inn, 2), "0 0 0 0 0 7 0 0 0 0");
    }

    /** So many loud rooms at one window. */
    private static FireflyInn loudRooms(int many) {
        FireflyInn inn = new FireflyInn();
        for (int r = 0; r < many; r++) {
            inn.open(5);
            inn.stay(r, 5, false);
            inn.stay(r, 5, false);
        }
        return inn;
    }

    private static void whispersRoomByRoom() {
        Check.same("step 2: two loud rooms", afterANight(loudRooms(2), 5, 7, 0, 0, 0, 0), "0 0 7 0 0");
        Check.same("step 2: three loud rooms", afterANight(loudRooms(3), 5, 7, 0, 0, 0, 0), "0 0 0 7 0");
        Check.same("step 2: six loud rooms", afterANight(loudRooms(6), 5, 7, 6, 5, 4, 3), "0 0 0 0 25");
        Check.same("step 2: six, as far as there is room", afterANight(loudRooms(6), 5, 30, 0, 0, 7, 6), "0 0 0 3 40");
        FireflyInn last = Inns.withRooms(0, 0, 0, 0, 0, 5);
        last.stay(5, 9, false);
        last.stay(5, 1, false);
        Check.same("step 2: the last of six rooms", afterANight(last, 5, 7, 0, 0, 0, 0), "0 7 0 0 0");
    }

    private static void whispersAtTheEnds() {
        FireflyInn inn = Inns.withRooms(0, 9);
        for (int g = 0; g < 4; g++) {
            inn.stay(g / 2, 5, false);
        }
        inn.swarm(0, 0, 7);
        inn.swarm(9, 3, 8);
        inn.pass(1);
        Check.same("step 2: at x 0", Inns.column(inn, 0), "0 7 0 0 0");
        Check.same("step 2: at x 9", Inns.column(inn, 9), "0 0 0 0 8");
    }

    private static void whispersFindTheRoomThatLampsMade() {
        // The lamps leave 20 of the 40 in y 4, and 1 of the 2 in y 3.
        FireflyInn inn = Inns.withRooms(5, 4);
        inn.lamp(1);
        inn.stay(1, 9, false);
        inn.stay(1, 1, false);
        Check.same("step 2: down to what is left by the step 1", afterANight(inn, 4, 0, 0, 0, 2, 40), "0 0 0 0 21");
    }

    private static void views() {
        Check.each(
            BoundaryNightsTest::viewsIfTheOwnLampDoesNotBurn,
            BoundaryNightsTest::viewsIfTheLightIsLessThan4,
            BoundaryNightsTest::viewsOfColumnsAtMost1Away,
            BoundaryNightsTest::viewsAtTheLeftEnd,
            BoundaryNightsTest::viewsAtTheRightEnd,
            BoundaryNightsTest::viewsAreAddedThenDividedAndCut,
            BoundaryNightsTest::viewsAreCutForEachGuest,
            BoundaryNightsTest::viewsOfThoseWhoStay,
            BoundaryNightsTest::viewsOfNothing,
            BoundaryNightsTest::viewsOfAllThatCanBe);
    }

    private static void viewsIfTheOwnLampDoesNotBurn() {
        FireflyInn inn = Inns.withRooms(5, 5);
        inn.lamp(0);
        inn.swarm(5, 0, 7);
        inn.stay(0, 0, false);
        inn.stay(1, 0, false);
        Check.same("step 3: only by the lamp that is out", inn.pass(1), 7);
        Check.same("step 3: the own lamp is out", inn.guest(0, 4), 7);
        Check.same("step 3: the own lamp burns", inn.guest(1, 4), 0);
        inn.move(1, 0);
        inn.lamp(0);
        Check.same("step 3: all lamps burn", inn.pass(8), 0);
    }

    private static void viewsIfTheLightIsLessThan4() {
        FireflyInn inn = Inns.withDarkRooms(5);
        Inns.setColumn(inn, 5, 8, 8, 8, 8, 8);
        inn.stay(0, 0, false);
        int[] due = {40, 20, 13, 10, 0, 10, 13, 20, 40, 20, 13, 10, 0, 10};
        for (int night = 0; night < due.length; night++) {
            Check.same("step 3: in the night " + night, inn.pass(1), due[night]);
        }
    }

    /** What a guest in the dark at this window sees of one cell with 7. */
    private static int seenOfCell(int window, int x, int y) {
        FireflyInn inn = Inns.withDarkRooms(window);
        inn.stay(0, 0, false);
        inn.swarm(x, y, 7);
        return inn.pass(1);
    }

    private static void viewsOfColumnsAtMost1Away() {
        for (int y = 0; y < 5; y++) {
            Check.same("step 3: 2 to the left, y " + y, seenOfCell(5, 3, y), 0);
            Check.same("step 3: 1 to the left, y " + y, seenOfCell(5, 4, y), 7);
            Check.same("step 3: at the window, y " + y, seenOfCell(5, 5, y), 7);
            Check.same("step 3: 1 to the right, y " + y, seenOfCell(5, 6, y), 7);
            Check.same("step 3: 2 to the right, y " + y, seenOfCell(5, 7, y), 0);
        }
    }

    private static void viewsAtTheLeftEnd() {
        for (int y = 0; y < 5; y++) {
            Check.same("step 3: x 0 from 0, y " + y, seenOfCell(0, 0, y), 7);
            Check.same("step 3: x 1 from 0, y " + y, seenOfCell(0, 1, y), 7);
            Check.same("step 3: x 2 from 0, y " + y, seenOfCell(0, 2, y), 0);
            Check.same("step 3: x 9 from 0, y " + y, seenOfCell(0, 9, y), 0);
        }
    }

    private static void viewsAtTheRightEnd() {
        for (int y = 0; y < 5; y++) {
            Check.same("step 3: x 9 from 9, y " + y, seenOfCell(9, 9, y), 7);
            Check.same("step 3: x 8 from 9, y " + y, seenOfCell(9, 8, y), 7);
            Check.same("step 3: x 7 from 9, y " + y, seenOfCell(9, 7, y), 0);
            Check.same("step 3: x 0 from 9, y " + y, seenOfCell(9, 0, y), 0);
        }
    }

    private static void viewsAreAddedThenDividedAndCut() {
        FireflyInn inn = Inns.withDarkRooms(5);
        inn.swarm(4, 0, 1);
        inn.swarm(5, 1, 1);
        inn.swarm(6, 4, 1);
        inn.stay(0, 0, false);
        int[] due = {3, 1, 1, 0, 0, 0, 1, 1, 3};
        for (int night = 0; night < due.length; night++) {
            Check.same("step 3: of 3 by the light + 1, night " + night, inn.pass(1), due[night]);
        }
        inn.swarm(5, 1, 2);
        int[] more = {2, 1, 1, 0, 1, 1, 2, 4};
        for (int night = 0; night < more.length; night++) {
            Check.same("step 3: of 4 by the light + 1, night " + night, inn.pass(1), more[night]);
        }
    }

    private static void viewsAreCutForEachGuest() {
        FireflyInn inn = Inns.withDarkRooms(5);
        inn.swarm(5, 0, 3);
        inn.stay(0, 0, false);
        inn.stay(0, 0, false);
        Check.same("step 3: 3 and 3", inn.pass(1), 6);
        Check.same("step 3: half of 3, cut, twice", inn.pass(1), 2);
        Check.same("step 3: each saw this", inn.guest(0, 4) + " " + inn.guest(1, 4), "4 4");
    }

    private static void viewsOfThoseWhoStay() {
        FireflyInn inn = Inns.withDarkRooms(5);
        inn.swarm(5, 0, 7);
        inn.stay(0, 0, false);
        inn.stay(0, 0, false);
        inn.leave(0);
        Check.same("step 3: one has left", inn.pass(1), 7);
        Check.same("step 3: who has left sees nothing", inn.guest(0, 4), 0);
        inn.leave(1);
        Check.same("step 3: all have left", inn.pass(60), 0);
        Check.same("step 3: what was seen is kept", inn.guest(1, 4), 7);
    }

    private static void viewsOfNothing() {
        FireflyInn inn = Inns.withDarkRooms(5);
        inn.swarm(0, 0, 9);
        inn.stay(0, 0, false);
        Check.same("step 3: no firefly near", inn.pass(60), 0);
        FireflyInn nobody = Inns.withDarkRooms(5);
        nobody.swarm(5, 0, 9);
        Check.same("step 3: no guest", nobody.pass(60), 0);
        Check.same("step 3: no room", new FireflyInn().pass(60), 0);
    }

    private static void viewsOfAllThatCanBe() {
        FireflyInn inn = Inns.withDarkRooms(1, 2, 4, 5, 7, 8);
        for (int x = 0; x < 10; x++) {
            Inns.setColumn(inn, x, 40, 40, 40, 40, 40);
        }
        for (int g = 0; g < 12; g++) {
            inn.stay(g / 2, 0, false);
        }
        Check.same("step 3: 12 guests see 600 each", inn.pass(1), 7200);
        Check.same("step 3: the last one", inn.guest(11, 4), 600);
    }

    private static void jars() {
        Check.each(
            BoundaryNightsTest::jarsTakeUpTo3,
            BoundaryNightsTest::jarsTakeOfTheUppermostCellWithSome,
            BoundaryNightsTest::jarsTakeNothingWhereThereIsNone,
            BoundaryNightsTest::jarsTakeByNumbers,
            BoundaryNightsTest::jarsOfThoseWhoStay,
            BoundaryNightsTest::jarsTakeInTheColumnOfTheWindow,
            BoundaryNightsTest::jarsOfAllGuests);
    }

    /** An inn in the dark with so many guests at x 5, all with jars; the warden is in another room that night. */
    private static FireflyInn withJars(int many) {
        FireflyInn inn = Inns.withDarkRooms(0, 5);
        for (int g = 0; g < many; g++) {
            inn.stay(1, 0, true);
        }
        return inn;
    }

    private static void jarsTakeUpTo3() {
        for (int many = 0; many <= 9; many++) {
            FireflyInn inn = withJars(1);
            int due = many < 3 ? many : 3;
            inn.swarm(5, 2, many);
            inn.pass(1);
            Check.same("step 4: the jar took of " + many, inn.guest(0, 3), due);
            Check.same("step 4: there are left of " + many, inn.cell(5, 2), many - due);
        }
    }

    private static void jarsTakeOfTheUppermostCellWithSome() {
        Check.same("step 4: y 0", afterANight(withJars(1), 5, 9, 9, 9, 9, 9), "6 9 9 9 9");
        Check.same("step 4: y 1", afterANight(withJars(1), 5, 0, 9, 9, 9, 9), "0 6 9 9 9");
        Check.same("step 4: y 4", afterANight(withJars(1), 5, 0, 0, 0, 0, 9), "0 0 0 0 6");
        Check.same("step 4: 1 is some", afterANight(withJars(1), 5, 0, 1, 9, 9, 9), "0 0 9 9 9");
        FireflyInn two = withJars(1);
        Check.same("step 4: of one cell alone", afterANight(two, 5, 0, 2, 0, 9, 0), "0 0 0 9 0");
        Check.same("step 4: it took 2", two.guest(0, 3), 2);
    }

    private static void jarsTakeNothingWhereThereIsNone() {
        FireflyInn inn = withJars(12);
        Check.same("step 4: an empty column", afterANight(inn, 5, 0, 0, 0, 0, 0), "0 0 0 0 0");
        for (int g = 0; g < 12; g++) {
            Check.same("step 4: an empty jar", inn.guest(g, 3), 0);
        }
        Check.same("step 4: none of the others", inn.count(2), 0);
    }

    private static void jarsTakeByNumbers() {
        FireflyInn inn = withJars(3);
        Check.same("step 4: one takes what is left", afterANight(inn, 5, 0, 4, 0, 0, 2), "0 0 0 0 0");
        Check.same("step 4: the first", inn.guest(0, 3), 3);
        Check.same("step 4: the second", inn.guest(1, 3), 1);
        Check.same("step 4: the third, from the next cell", inn.guest(2, 3), 2);
        FireflyInn rooms = Inns.withDarkRooms(0, 5, 5);
        rooms.stay(2, 0, true);
        rooms.stay(1, 0, true);
        rooms.swarm(5, 0, 4);
        rooms.pass(1);
        Check.same("step 4: the guests' numbers, not the rooms'", rooms.guest(0, 3) + " " + rooms.guest(1, 3), "3 1");
    }

    private static void jarsOfThoseWhoStay() {
        FireflyInn inn = withJars(2);
        inn.leave(0);
        Check.same("step 4: one has left", afterANight(inn, 5, 9, 0, 0, 0, 0), "6 0 0 0 0");
        Check.same("step 4: that jar took none", inn.guest(0, 3) + " " + inn.guest(1, 3), "0 3");
        FireflyInn without = Inns.withDarkRooms(0, 5);
        without.stay(1, 0, false);
        Check.same("step 4: without a jar", afterANight(without, 5, 9, 0, 0, 0, 0), "9 0 0 0 0");
        Check.same("step 4: without a jar", without.guest(0, 3), 0);
    }

    private static void jarsTakeInTheColumnOfTheWindow() {
        FireflyInn inn = withJars(1);
        for (int x = 0; x < 10; x++) {
            inn.swarm(x, 0, 9);
        }
        inn.pass(1);
        Check.same("step 4: none beside it", Inns.row(inn, 0), "9 9 9 9 9 6 9 9 9 9");
        FireflyInn ends = Inns.withDarkRooms(5, 0, 9);
        ends.stay(1, 0, true);
        ends.stay(2, 0, true);
        ends.swarm(0, 4, 9);
        ends.swarm(9, 0, 9);
        ends.pass(1);
        Check.same("step 4: at x 0", ends.cell(0, 4), 6);
        Check.same("step 4: at x 9", ends.cell(9, 0), 6);
    }

    private static void jarsOfAllGuests() {
        FireflyInn enough = withJars(12);
        Check.same("step 4: 12 jars take 36", afterANight(enough, 5, 0, 0, 0, 0, 37), "0 0 0 0 1");
        Check.same("step 4: the last one took 3", enough.guest(11, 3), 3);
        FireflyInn scarce = withJars(12);
        Check.same("step 4: 12 jars take 35", afterANight(scarce, 5, 0, 0, 0, 0, 35), "0 0 0 0 0");
        Check.same("step 4: the last one took 2", scarce.guest(11, 3), 2);
    }

    private static void warden() {
        Check.each(
            BoundaryNightsTest::wardenByTheRemainderOfAllRooms,
            BoundaryNightsTest::wardenWithoutRooms,
            BoundaryNightsTest::wardenInTheOnlyRoom,
            BoundaryNightsTest::wardenInRoomsOpenedLater,
            BoundaryNightsTest::wardenCountsJarsAlone,
            BoundaryNightsTest::wardenFindsAllJars,
            BoundaryNightsTest::wardenFindsOfThoseWhoAreInTheRoom,
            BoundaryNightsTest::wardenComesAfterTheJarsTook);
    }

    /** Six rooms, in each a guest with a jar. */
    private static FireflyInn aJarInEachRoom() {
        FireflyInn inn = Inns.withRooms(0, 1, 2, 3, 4, 5);
        for (int r = 0; r < 6; r++) {
            inn.stay(r, 0, true);
        }
        return inn;
    }

    private static String jarsLeft(FireflyInn inn, int guests) {
        StringBuilder text = new StringBuilder();
        for (int g = 0; g < guests; g++) {
            text.append(inn.guest(g, 2));
        }
        return text.append(' ').append(inn.count(7)).toString();
    }

    private static void wardenByTheRemainderOfAllRooms() {
        FireflyInn inn = aJarInEachRoom();
        String[] due = {"011111 1", "001111 2", "000111 3", "000011 4", "000001 5", "000000 6"};
        for (int night = 0; night < due.length; night++) {
            inn.pass(1);
            Check.same("step 5: the night " + night, jarsLeft(inn, 6), due[night]);
        }
        FireflyInn again = aJarInEachRoom();
        for (int g = 0; g < 6; g++) {
            again.leave(g);
        }
        again.pass(6);
        again.stay(5, 0, true);
        again.stay(0, 0, true);
        again.pass(1);
        Check.same("step 5: the night 6 is for room 0 again", jarsLeft(again, 8), "00000010 1");
        again.pass(4);
        Check.same("step 5: until the night 10", jarsLeft(again, 8), "00000010 1");
        again.pass(1);
        Check.same("step 5: the night 11 is for room 5", jarsLeft(again, 8), "00000000 2");
    }

    private static void wardenWithoutRooms() {
        FireflyInn inn = new FireflyInn();
        for (int n = 0; n < 9; n++) {
            Check.same("step 5: no rooms", Check.answer(() -> inn.pass(1)), 0);
        }
        Check.same("step 5: nothing is found", Inns.counts(inn), "9 1 0 0 0 0 0 0 0");
    }

    private static void wardenInTheOnlyRoom() {
        FireflyInn inn = Inns.withRooms(5);
        for (int n = 0; n < 9; n++) {
            inn.stay(0, 0, true);
            inn.pass(1);
            Check.same("step 5: each night in the only room", inn.count(6) + " " + inn.count(7), "0 " + (n + 1));
        }
    }

    private static void wardenInRoomsOpenedLater() {
        FireflyInn inn = Inns.withRooms(1, 2);
        inn.pass(3);
        inn.stay(0, 0, true);
        inn.stay(1, 0, true);
        inn.open(3);
        inn.pass(1);
        Check.same("step 5: of three rooms, the night 3", jarsLeft(inn, 2), "01 1");
    }

    private static void wardenCountsJarsAlone() {
        FireflyInn inn = Inns.withRooms(5);
        inn.stay(0, 0, false);
        inn.stay(0, 0, true);
        inn.stay(0, 0, true);
        inn.leave(2);
        inn.pass(1);
        Check.same("step 5: one jar of three guests", inn.count(7), 1);
        inn.pass(59);
        Check.same("step 5: none is found twice", inn.count(7), 1);
        Check.same("step 5: guests stay without it", inn.count(5), 2);
    }

    private static void wardenFindsAllJars() {
        FireflyInn inn = Inns.withRooms(5);
        for (int g = 0; g < 12; g++) {
            inn.stay(0, 0, true);
        }
        inn.pass(1);
        Check.same("step 5: all 12 at once", jarsLeft(inn, 12), "000000000000 12");
        FireflyInn none = Inns.withRooms(5, 6);
        none.stay(1, 0, true);
        none.pass(1);
        Check.same("step 5: an empty room", jarsLeft(none, 1), "1 0");
    }

    private static void wardenFindsOfThoseWhoAreInTheRoom() {
        FireflyInn inn = Inns.withRooms(5, 6);
        inn.stay(0, 0, true);
        inn.stay(1, 0, true);
        inn.move(0, 1);
        inn.move(1, 0);
        inn.pass(1);
        Check.same("step 5: who moved in is found, who moved out is not", jarsLeft(inn, 2), "10 1");
    }

    private static void wardenComesAfterTheJarsTook() {
        FireflyInn inn = Inns.withDarkRooms(5);
        inn.swarm(5, 0, 9);
        inn.stay(0, 0, true);
        inn.pass(2);
        Check.same("step 5: the jar took once, and no more", Inns.allOfGuest(inn, 0), "0 0 0 3 12 0");
        Check.same("step 5: what it took does not come back", inn.cell(5, 0), 6);
    }

    private static void growth() {
        Check.each(
            BoundaryNightsTest::growthOf10OrMore,
            BoundaryNightsTest::growthIsCut,
            BoundaryNightsTest::growthUpTo40,
            BoundaryNightsTest::growthInColumnsThatAreNotLit,
            BoundaryNightsTest::growthOfWhatIsThereThen,
            BoundaryNightsTest::growthInEachCell);
    }

    private static void growthOf10OrMore() {
        FireflyInn inn = new FireflyInn();
        Check.same("step 6: up to 9", afterANight(inn, 5, 0, 1, 5, 8, 9), "0 1 5 8 9");
        inn.pass(59);
        Check.same("step 6: never", Inns.column(inn, 5), "0 1 5 8 9");
        Check.same("step 6: from 10", afterANight(new FireflyInn(), 5, 9, 10, 11, 12, 13), "9 11 12 13 14");
    }

    private static void growthIsCut() {
        Check.same("step 6: 19 and 20", afterANight(new FireflyInn(), 5, 18, 19, 20, 21, 22), "19 20 22 23 24");
        Check.same("step 6: 29 and 30", afterANight(new FireflyInn(), 5, 28, 29, 30, 31, 32), "30 31 33 34 35");
    }

    private static void growthUpTo40() {
        Check.same("step 6: up to 40", afterANight(new FireflyInn(), 5, 36, 37, 38, 39, 40), "39 40 40 40 40");
        FireflyInn full = new FireflyInn();
        for (int x = 0; x < 10; x++) {
            Inns.setColumn(full, x, 40, 40, 40, 40, 40);
        }
        full.pass(60);
        Check.same("step 6: all full", full.count(2), 2000);
    }

    private static void growthInColumnsThatAreNotLit() {
        Check.same("step 6: a lit column", tenAndMore(Inns.withRooms(5), 5), "10 20 30 40 9");
        Check.same("step 6: 2 to the left of it", tenAndMore(Inns.withRooms(5), 3), "11 22 33 40 9");
        Check.same("step 6: 2 to the right of it", tenAndMore(Inns.withRooms(5), 7), "11 22 33 40 9");
        Check.same("step 6: 1 to the left of it", tenAndMore(Inns.withRooms(5), 4), "5 10 15 20 5");
        Check.same("step 6: 1 to the right of it", tenAndMore(Inns.withRooms(5), 6), "5 10 15 20 5");
        Check.same("step 6: a lamp that is out", tenAndMore(Inns.withDarkRooms(5), 5), "11 22 33 40 9");
        Check.same("step 6: the lit end", tenAndMore(Inns.withRooms(9), 9), "10 20 30 40 9");
        Check.same("step 6: the dark end", tenAndMore(Inns.withRooms(9), 0), "11 22 33 40 9");
    }

    private static String tenAndMore(FireflyInn inn, int x) {
        return afterANight(inn, x, 10, 20, 30, 40, 9);
    }

    private static void growthOfWhatIsThereThen() {
        Check.same("step 6: a jar leaves 9", afterANight(withJars(1), 5, 12, 0, 0, 0, 0), "9 0 0 0 0");
        Check.same("step 6: a jar leaves 10", afterANight(withJars(1), 5, 13, 0, 0, 0, 0), "11 0 0 0 0");
        FireflyInn driven = Inns.withRooms(5);
        Inns.setColumn(driven, 3, 5, 4, 0, 0, 0);
        Check.same("step 6: half stay in the light", afterANight(driven, 4, 10, 10, 20, 18, 0), "5 5 10 9 0");
        Check.same("step 6: what was driven in counts", Inns.column(driven, 3), "11 9 11 9 0");
        FireflyInn down = Inns.withDarkRooms(5);
        down.stay(0, 9, false);
        down.stay(0, 1, false);
        Check.same("step 6: what went down counts", afterANight(down, 5, 0, 0, 0, 5, 5), "0 0 0 0 11");
    }

    private static void growthInEachCell() {
        FireflyInn inn = new FireflyInn();
        for (int x = 0; x < 10; x++) {
            Inns.setColumn(inn, x, 10, 10, 10, 10, 10);
        }
        inn.pass(1);
        for (int y = 0; y < 5; y++) {
            Check.same("step 6: in each cell", Inns.row(inn, y), "11 11 11 11 11 11 11 11 11 11");
        }
    }

    private static void nights() {
        Check.each(
            BoundaryNightsTest::nightIs1Greater,
            BoundaryNightsTest::passTakes1To60,
            BoundaryNightsTest::passReturnsWhatIsSeenInThemAlone,
            BoundaryNightsTest::passOfAllFull);
    }

    private static void nightIs1Greater() {
        FireflyInn inn = new FireflyInn();
        inn.pass(1);
        Check.same("step 7: one night", inn.count(0), 1);
        inn.pass(60);
        Check.same("step 7: 60 nights more", inn.count(0), 61);
    }

    /** What all guests of an inn see is told by the moon alone here: 12, 6, 4, 3, 0, 3, 4, 6. */
    private static FireflyInn steady() {
        FireflyInn inn = Inns.withDarkRooms(5);
        inn.swarm(5, 0, 6);
        inn.swarm(4, 4, 6);
        inn.stay(0, 0, false);
        return inn;
    }

    private static void passTakes1To60() {
        Check.same("14: 1 night", steady().pass(1), 12);
        Check.same("14: 59 nights", steady().pass(59), 7 * 38 + 12 + 6 + 4);
        Check.same("14: 60 nights", steady().pass(60), 7 * 38 + 12 + 6 + 4 + 3);
        Check.refusedFor("14: nights", BoundaryNightsTest::steady, Check.ARGUMENT, (i, n) -> i.pass(n), -1, 0, 61);
        Check.refusedFor("14: nights, nothing there", FireflyInn::new, Check.ARGUMENT, (i, n) -> i.pass(n), 0, 61);
        Check.refusedFor("14: nights, all full", Inns::full, Check.ARGUMENT, (i, n) -> i.pass(n), 0, 61);
    }

    private static void passReturnsWhatIsSeenInThemAlone() {
        FireflyInn inn = steady();
        Check.same("14: the first night", inn.pass(1), 12);
        Check.same("14: the two behind it", inn.pass(2), 6 + 4);
        inn.leave(0);
        Check.same("14: all have left", inn.pass(8), 0);
        Check.same("14: nothing there at all", new FireflyInn().pass(1), 0);
    }

    private static void passOfAllFull() {
        FireflyInn inn = Inns.full();
        Check.same("14: all is lit, and no guest sees", inn.pass(60), 0);
        Check.same("14: all is found", inn.count(7), 12);
    }
}
