/**
 * The sentences of the document on the hedge, the rooms and the guests that name a boundary case (the terms, and the
 * promises 1 to 13), each by a test of its own that bears the sentence's promise in its name.
 */
public final class BoundaryCallsTest {
    public static void main(String[] args) {
        newInn();
        swarm();
        cell();
        open();
        lamp();
        room();
        isLit();
        stay();
        move();
        leave();
        hush();
        guest();
        count();
        Check.end();
    }

    /** One room, one guest, one firefly: the least that is not nothing. */
    private static FireflyInn small() {
        FireflyInn inn = Inns.withRooms(5);
        inn.swarm(5, 2, 1);
        inn.stay(0, 4, true);
        return inn;
    }

    /** As full as can be, with the guests 0 and 11 gone. */
    private static FireflyInn leftByTwo() {
        FireflyInn inn = Inns.full();
        inn.leave(0);
        inn.leave(11);
        return inn;
    }

    private static void newInn() {
        Check.each(
            BoundaryCallsTest::newInnHasNoRoom,
            BoundaryCallsTest::newInnHasNoGuest,
            BoundaryCallsTest::newInnIsInTheNight0,
            BoundaryCallsTest::newInnHasNoFirefly,
            BoundaryCallsTest::newInnIsNotLit);
    }

    private static void newInnHasNoRoom() {
        Check.same("1: rooms of a new inn", new FireflyInn().count(3), 0);
        Check.same("1: lamps that burn in a new inn", new FireflyInn().count(4), 0);
        Check.refusedFor("1: the window of a room", FireflyInn::new, Check.INDEX, (inn, r) -> inn.room(r, 0), -1, 0, 1);
    }

    private static void newInnHasNoGuest() {
        Check.same("1: guests who stay in a new inn", new FireflyInn().count(5), 0);
        Check.same("1: jars in a new inn", new FireflyInn().count(6), 0);
        Check.same("1: jars found in a new inn", new FireflyInn().count(7), 0);
        Check.refusedFor("1: the room of a guest", FireflyInn::new, Check.INDEX, (inn, g) -> inn.guest(g, 0), -1, 0, 1);
    }

    private static void newInnIsInTheNight0() {
        Check.same("1: the night of a new inn", new FireflyInn().count(0), 0);
        Check.same("1: the moon of a new inn", new FireflyInn().count(1), 0);
    }

    private static void newInnHasNoFirefly() {
        FireflyInn inn = new FireflyInn();
        for (int y = 0; y < 5; y++) {
            Check.same("terms: each cell has none, at first", Inns.row(inn, y), "0 0 0 0 0 0 0 0 0 0");
        }
        Check.same("terms: all fireflies at first", inn.count(2), 0);
    }

    private static void newInnIsNotLit() {
        FireflyInn inn = new FireflyInn();
        for (int x = 0; x < 10; x++) {
            Check.same("7: without rooms no column is lit, " + x, inn.isLit(x), false);
        }
        Check.same("13: without rooms no column is lit", inn.count(8), 0);
    }

    private static void swarm() {
        Check.each(
            BoundaryCallsTest::swarmTakesX0To9,
            BoundaryCallsTest::swarmTakesY0To4,
            BoundaryCallsTest::swarmTakes0To40,
            BoundaryCallsTest::swarmReturnsHowManyItHad,
            BoundaryCallsTest::swarmSetsOneCellAlone,
            BoundaryCallsTest::swarmThrowsTheFirstNamed);
    }

    private static void swarmTakesX0To9() {
        FireflyInn inn = new FireflyInn();
        inn.swarm(0, 2, 3);
        inn.swarm(9, 2, 4);
        Check.same("2: x 0 and x 9", Inns.row(inn, 2), "3 0 0 0 0 0 0 0 0 4");
        Check.refusedFor("2: x", FireflyInn::new, Check.INDEX, (i, x) -> i.swarm(x, 2, 5), -1, 10, 11, 50);
        Check.refusedFor("2: x, all full", Inns::full, Check.INDEX, (i, x) -> i.swarm(x, 2, 5), -1, 10);
    }

    private static void swarmTakesY0To4() {
        FireflyInn inn = new FireflyInn();
        inn.swarm(7, 0, 3);
        inn.swarm(7, 4, 4);
        Check.same("2: y 0 and y 4", Inns.column(inn, 7), "3 0 0 0 4");
        Check.refusedFor("2: y", FireflyInn::new, Check.INDEX, (i, y) -> i.swarm(7, y, 5), -1, 5, 9);
        Check.refusedFor("2: y, all full", Inns::full, Check.INDEX, (i, y) -> i.swarm(0, y, 5), -1, 5);
    }

    private static void swarmTakes0To40() {
        FireflyInn inn = new FireflyInn();
        inn.swarm(4, 4, 40);
        Check.same("2: 40 are taken", inn.cell(4, 4), 40);
        inn.swarm(4, 4, 0);
        Check.same("2: 0 are taken", inn.cell(4, 4), 0);
        Check.refusedFor("2: many", FireflyInn::new, Check.ARGUMENT, (i, many) -> i.swarm(4, 4, many), -1, 41);
        Check.refusedFor("2: many, all full", Inns::full, Check.ARGUMENT, (i, many) -> i.swarm(4, 4, many), -1, 41);
    }

    private static void swarmReturnsHowManyItHad() {
        FireflyInn inn = new FireflyInn();
        Check.same("2: had none", inn.swarm(0, 0, 40), 0);
        Check.same("2: had 40", inn.swarm(0, 0, 40), 40);
        Check.same("2: had 40, has none", inn.swarm(0, 0, 0), 40);
        Check.same("2: had none again", inn.swarm(0, 0, 1), 0);
    }

    private static void swarmSetsOneCellAlone() {
        FireflyInn inn = new FireflyInn();
        inn.swarm(9, 0, 1);
        inn.swarm(0, 4, 2);
        Check.same("2: the end of the first row", Inns.row(inn, 0), "0 0 0 0 0 0 0 0 0 1");
        Check.same("2: no row goes on in the next one", Inns.row(inn, 1), "0 0 0 0 0 0 0 0 0 0");
        Check.same("2: nor in the one before", Inns.row(inn, 3), "0 0 0 0 0 0 0 0 0 0");
        Check.same("2: the beginning of the last row", Inns.row(inn, 4), "2 0 0 0 0 0 0 0 0 0");
        FireflyInn full = Inns.full();
        Check.same("2: 40 in each cell", full.count(2), 2000);
        full.swarm(9, 4, 39);
        Check.same("2: 40 in each cell but one", full.count(2), 1999);
    }

    private static void swarmThrowsTheFirstNamed() {
        for (int many : new int[] {-1, 41}) {
            Check.refused("2: x and many", Inns::full, Check.INDEX, inn -> inn.swarm(-1, 0, many));
            Check.refused("2: x and many", Inns::full, Check.INDEX, inn -> inn.swarm(10, 4, many));
            Check.refused("2: y and many", Inns::full, Check.INDEX, inn -> inn.swarm(0, -1, many));
            Check.refused("2: y and many", Inns::full, Check.INDEX, inn -> inn.swarm(9, 5, many));
            Check.refused("2: all three", Inns::full, Check.INDEX, inn -> inn.swarm(10, 5, many));
        }
    }

    private static void cell() {
        Check.each(
            BoundaryCallsTest::cellTakesX0To9,
            BoundaryCallsTest::cellTakesY0To4,
            BoundaryCallsTest::cellTells0To40);
    }

    private static void cellTakesX0To9() {
        FireflyInn inn = new FireflyInn();
        inn.swarm(0, 1, 6);
        inn.swarm(9, 1, 7);
        Check.same("3: x 0", inn.cell(0, 1), 6);
        Check.same("3: x 9", inn.cell(9, 1), 7);
        Check.refusedFor("3: x", Inns::full, Check.INDEX, (i, x) -> i.cell(x, 1), -1, 10, 20);
    }

    private static void cellTakesY0To4() {
        FireflyInn inn = new FireflyInn();
        inn.swarm(5, 0, 6);
        inn.swarm(5, 4, 7);
        Check.same("3: y 0", inn.cell(5, 0), 6);
        Check.same("3: y 4", inn.cell(5, 4), 7);
        Check.refusedFor("3: y", Inns::full, Check.INDEX, (i, y) -> i.cell(0, y), -1, 5, 9);
        Check.refused("3: x and y", Inns::full, Check.INDEX, i -> i.cell(-1, 5));
    }

    private static void cellTells0To40() {
        Check.told("3: an empty cell", FireflyInn::new, 0, inn -> inn.cell(9, 4));
        Check.told("3: a full cell", Inns::full, 40, inn -> inn.cell(9, 4));
    }

    private static void open() {
        Check.each(
            BoundaryCallsTest::openTakesX0To9,
            BoundaryCallsTest::openTakes6Rooms,
            BoundaryCallsTest::openThrowsTheFirstNamed,
            BoundaryCallsTest::openNumbersRoomsFrom0,
            BoundaryCallsTest::openedLampBurns);
    }

    private static void openTakesX0To9() {
        FireflyInn inn = new FireflyInn();
        inn.open(0);
        inn.open(9);
        Check.same("4: a window at 0", inn.room(0, 0), 0);
        Check.same("4: a window at 9", inn.room(1, 0), 9);
        Check.refusedFor("4: x", FireflyInn::new, Check.ARGUMENT, (i, x) -> i.open(x), -1, 10);
    }

    private static FireflyInn withFiveRooms() {
        return Inns.withRooms(1, 1, 1, 1, 1);
    }

    private static void openTakes6Rooms() {
        FireflyInn inn = withFiveRooms();
        Check.same("4: the sixth room", Check.answer(() -> inn.open(3)), 5);
        Check.same("4: there are 6", inn.count(3), 6);
        Check.refused("4: a seventh room", Inns::full, Check.STATE, i -> i.open(0));
        Check.refused("4: a seventh room", Inns::full, Check.STATE, i -> i.open(9));
        FireflyInn refused = withFiveRooms();
        Check.answer(() -> refused.open(10));
        Check.same("4: a refused one is no room", Check.answer(() -> refused.open(0)), 5);
    }

    private static void openThrowsTheFirstNamed() {
        Check.refusedFor("4: x, and there are 6", Inns::full, Check.ARGUMENT, (inn, x) -> inn.open(x), -1, 10);
    }

    private static void openNumbersRoomsFrom0() {
        FireflyInn inn = new FireflyInn();
        for (int r = 0; r < 6; r++) {
            Check.same("terms: rooms are numbered from 0", inn.open(9 - r), r);
        }
        for (int r = 0; r < 6; r++) {
            Check.same("terms: in the order of their opening", inn.room(r, 0), 9 - r);
        }
    }

    private static void openedLampBurns() {
        FireflyInn inn = new FireflyInn();
        for (int r = 0; r < 6; r++) {
            inn.open(r);
            Check.same("terms: a lamp burns, at first", inn.room(r, 1), 1);
            Check.same("terms: all lamps burn", inn.count(4), r + 1);
        }
    }

    private static void lamp() {
        Check.each(
            BoundaryCallsTest::lampTakesARoomThatIsThere,
            BoundaryCallsTest::lampIsPutOutAndLit);
    }

    private static void lampTakesARoomThatIsThere() {
        Check.refusedFor("5: no room at all", FireflyInn::new, Check.INDEX, (inn, r) -> inn.lamp(r), -1, 0);
        Check.same("5: the only room", small().lamp(0), false);
        Check.refusedFor("5: one room", BoundaryCallsTest::small, Check.INDEX, (inn, r) -> inn.lamp(r), -1, 1, 5);
        Check.same("5: the last of six", Inns.full().lamp(5), false);
        Check.refusedFor("5: six rooms", Inns::full, Check.INDEX, (inn, r) -> inn.lamp(r), -1, 6, 12);
    }

    private static void lampIsPutOutAndLit() {
        FireflyInn inn = Inns.full();
        for (int r = 0; r < 6; r++) {
            int room = r;
            Check.same("5: put out", inn.lamp(room), false);
            Check.same("5: it is out", inn.room(room, 1), 0);
            Check.same("5: the others burn", inn.count(4), 5 - room);
        }
        Check.same("5: all are out, nothing is lit", inn.count(8), 0);
        Check.same("5: lit again", inn.lamp(5), true);
        Check.same("5: it burns", inn.room(5, 1), 1);
        Check.same("5: the others are out", inn.count(4), 1);
    }

    private static void room() {
        Check.each(
            BoundaryCallsTest::roomTakesARoomThatIsThere,
            BoundaryCallsTest::roomTakesWhat0To4,
            BoundaryCallsTest::roomWithoutGuests,
            BoundaryCallsTest::roomWithAllGuests,
            BoundaryCallsTest::roomCountsThoseWhoStay);
    }

    private static void roomTakesARoomThatIsThere() {
        Check.refusedFor("6: no room at all", FireflyInn::new, Check.INDEX, (inn, r) -> inn.room(r, 4), -1, 0);
        Check.same("6: the only room", Inns.allOfRoom(small(), 0), "5 1 1 4 1");
        Check.refusedFor("6: one room", BoundaryCallsTest::small, Check.INDEX, (inn, r) -> inn.room(r, 0), -1, 1);
        Check.same("6: the last of six", Inns.allOfRoom(Inns.full(), 5), "9 1 2 18 2");
        Check.refusedFor("6: six rooms", Inns::full, Check.INDEX, (inn, r) -> inn.room(r, 0), -1, 6);
        Check.refused("6: neither room nor what", Inns::full, Check.INDEX, inn -> inn.room(6, 5));
    }

    private static void roomTakesWhat0To4() {
        Check.told("6: what 0", BoundaryCallsTest::small, 5, inn -> inn.room(0, 0));
        Check.told("6: what 4", BoundaryCallsTest::small, 1, inn -> inn.room(0, 4));
        Check.refusedFor("6: what", BoundaryCallsTest::small, Check.INDEX, (inn, w) -> inn.room(0, w), -1, 5);
        Check.refusedFor("6: what, all full", Inns::full, Check.INDEX, (inn, w) -> inn.room(5, w), -1, 5);
    }

    private static void roomWithoutGuests() {
        Check.same("6: a room without guests", Inns.allOfRoom(Inns.withRooms(3), 0), "3 1 0 0 0");
        Check.same("6: and without a lamp", Inns.allOfRoom(Inns.withDarkRooms(3), 0), "3 0 0 0 0");
        FireflyInn left = small();
        left.leave(0);
        Check.same("6: the last one has left", Inns.allOfRoom(left, 0), "5 1 0 0 0");
    }

    private static void roomWithAllGuests() {
        FireflyInn inn = Inns.full();
        for (int g = 0; g < 12; g++) {
            inn.move(g, 5);
        }
        Check.same("6: all 12 in one room", Inns.allOfRoom(inn, 5), "9 1 12 108 12");
        Check.same("6: none in the other", Inns.allOfRoom(inn, 0), "0 1 0 0 0");
    }

    private static void roomCountsThoseWhoStay() {
        FireflyInn inn = leftByTwo();
        Check.same("6: one of two has left", Inns.allOfRoom(inn, 0), "0 1 1 9 1");
        inn.hush(0, 5);
        Check.same("6: what one who has left whispers", inn.room(0, 3), 9);
    }

    private static void isLit() {
        Check.each(
            BoundaryCallsTest::isLitTakesX0To9,
            BoundaryCallsTest::litAtMost1Away,
            BoundaryCallsTest::litAtTheEnds,
            BoundaryCallsTest::notLitByALampThatIsOut);
    }

    private static void isLitTakesX0To9() {
        Check.told("7: x 0", Inns::full, true, inn -> inn.isLit(0));
        Check.told("7: x 9", Inns::full, true, inn -> inn.isLit(9));
        Check.refusedFor("7: x", Inns::full, Check.INDEX, (inn, x) -> inn.isLit(x), -1, 10);
        Check.refusedFor("7: x, no room", FireflyInn::new, Check.INDEX, (inn, x) -> inn.isLit(x), -1, 10);
    }

    /** The columns that are lit, each by a plus. */
    private static String lit(FireflyInn inn) {
        StringBuilder text = new StringBuilder();
        for (int x = 0; x < 10; x++) {
            text.append(inn.isLit(x) ? '+' : '-');
        }
        return text.append(' ').append(inn.count(8)).toString();
    }

    private static void litAtMost1Away() {
        Check.same("terms: lit is at most 1 away", lit(Inns.withRooms(5)), "----+++--- 3");
        Check.same("terms: two windows side by side", lit(Inns.withRooms(4, 5)), "---++++--- 4");
        Check.same("terms: two windows 3 apart", lit(Inns.withRooms(3, 6)), "--++++++-- 6");
        Check.same("terms: two windows 4 apart", lit(Inns.withRooms(3, 7)), "--+++-+++- 6");
        Check.same("terms: all windows at one x", lit(Inns.withRooms(2, 2, 2, 2, 2, 2)), "-+++------ 3");
        Check.same("terms: all is lit", lit(Inns.full()), "++++++++++ 10");
    }

    private static void litAtTheEnds() {
        Check.same("terms: a window at 0", lit(Inns.withRooms(0)), "++-------- 2");
        Check.same("terms: a window at 1", lit(Inns.withRooms(1)), "+++------- 3");
        Check.same("terms: a window at 8", lit(Inns.withRooms(8)), "-------+++ 3");
        Check.same("terms: a window at 9", lit(Inns.withRooms(9)), "--------++ 2");
    }

    private static void notLitByALampThatIsOut() {
        Check.same("terms: a lamp that is out", lit(Inns.withDarkRooms(5)), "---------- 0");
        FireflyInn two = Inns.withRooms(5, 5);
        two.lamp(0);
        Check.same("terms: one of two is out", lit(two), "----+++--- 3");
        two.lamp(1);
        Check.same("terms: both are out", lit(two), "---------- 0");
        two.lamp(1);
        Check.same("terms: the last one burns again", lit(two), "----+++--- 3");
        FireflyInn six = Inns.withDarkRooms(0, 0, 0, 0, 0, 7);
        six.lamp(5);
        Check.same("terms: the last of six burns alone", lit(six), "------+++- 3");
        six.lamp(5);
        six.lamp(0);
        Check.same("terms: the first of six burns alone", lit(six), "++-------- 2");
    }

    private static void stay() {
        Check.each(
            BoundaryCallsTest::stayTakesARoomThatIsThere,
            BoundaryCallsTest::stayTakesWhispers0To9,
            BoundaryCallsTest::stayTakes12Guests,
            BoundaryCallsTest::stayThrowsTheFirstNamed,
            BoundaryCallsTest::stayNumbersGuestsFrom0,
            BoundaryCallsTest::newGuestSawNothing);
    }

    private static void stayTakesARoomThatIsThere() {
        Check.refusedFor("8: no room", FireflyInn::new, Check.INDEX, (inn, r) -> inn.stay(r, 0, true), -1, 0);
        Check.same("8: the only room", Check.answer(() -> small().stay(0, 0, true)), 1);
        Check.refusedFor("8: one room", BoundaryCallsTest::small, Check.INDEX, (inn, r) -> inn.stay(r, 0, true), -1, 1);
        FireflyInn six = Inns.withRooms(0, 1, 2, 3, 4, 5);
        Check.same("8: the last of six", Check.answer(() -> six.stay(5, 0, false)), 0);
        Check.same("8: the last of six", six.room(5, 2), 1);
        Check.refusedFor("8: six rooms", () -> Inns.withRooms(0, 1, 2, 3, 4, 5), Check.INDEX,
            (inn, r) -> inn.stay(r, 0, true), -1, 6);
    }

    private static void stayTakesWhispers0To9() {
        FireflyInn inn = Inns.withRooms(5);
        inn.stay(0, 0, false);
        inn.stay(0, 9, false);
        Check.same("8: a whisper of 0", inn.guest(0, 1), 0);
        Check.same("8: a whisper of 9", inn.guest(1, 1), 9);
        Check.refusedFor("8: whisper", BoundaryCallsTest::small, Check.ARGUMENT, (i, w) -> i.stay(0, w, true), -1, 10);
    }

    private static FireflyInn withElevenGuests() {
        FireflyInn inn = Inns.withRooms(5);
        for (int g = 0; g < 11; g++) {
            inn.stay(0, 1, false);
        }
        return inn;
    }

    private static void stayTakes12Guests() {
        FireflyInn inn = withElevenGuests();
        Check.same("8: the twelfth guest", Check.answer(() -> inn.stay(0, 2, true)), 11);
        Check.same("8: the twelfth guest", Inns.allOfGuest(inn, 11), "0 2 1 0 0 0");
        Check.refused("8: a thirteenth guest", Inns::full, Check.STATE, i -> i.stay(0, 0, true));
        Check.refused("8: those who have left are guests", BoundaryCallsTest::leftByTwo, Check.STATE,
            i -> i.stay(0, 0, false));
        FireflyInn refused = withElevenGuests();
        Check.answer(() -> refused.stay(1, 0, true));
        Check.answer(() -> refused.stay(0, 10, true));
        Check.same("8: a refused one is no guest", Check.answer(() -> refused.stay(0, 0, true)), 11);
    }

    private static void stayThrowsTheFirstNamed() {
        for (int whisper : new int[] {-1, 10}) {
            Check.refused("8: no room, whisper", BoundaryCallsTest::small, Check.INDEX, i -> i.stay(1, whisper, true));
            Check.refused("8: whisper, 12", Inns::full, Check.ARGUMENT, i -> i.stay(0, whisper, true));
            Check.refused("8: no room, whisper, 12", Inns::full, Check.INDEX, i -> i.stay(6, whisper, true));
        }
        Check.refused("8: no room, 12", Inns::full, Check.INDEX, i -> i.stay(-1, 0, true));
        Check.refused("8: no room, 12", Inns::full, Check.INDEX, i -> i.stay(6, 9, true));
    }

    private static void stayNumbersGuestsFrom0() {
        FireflyInn inn = Inns.withRooms(5, 6);
        for (int g = 0; g < 12; g++) {
            Check.same("terms: guests are numbered likewise", inn.stay(1 - g % 2, g % 10, false), g);
        }
        for (int g = 0; g < 12; g++) {
            String due = (1 - g % 2) + " " + g % 10 + " 0 0 0 0";
            Check.same("terms: in the order of their coming", Inns.allOfGuest(inn, g), due);
        }
    }

    private static void newGuestSawNothing() {
        FireflyInn inn = Inns.withDarkRooms(5);
        inn.swarm(5, 0, 9);
        inn.stay(0, 0, true);
        inn.pass(1);
        inn.stay(0, 0, true);
        Check.same("terms: saw 0 (at first)", Inns.allOfGuest(inn, 1), "0 0 1 0 0 0");
    }

    private static void move() {
        Check.each(
            BoundaryCallsTest::moveTakesAGuestWhoIsThere,
            BoundaryCallsTest::moveTakesARoomThatIsThere,
            BoundaryCallsTest::moveRefusesOneWhoHasLeft,
            BoundaryCallsTest::moveThrowsTheFirstNamed,
            BoundaryCallsTest::moveReturnsTheRoomBefore);
    }

    private static FireflyInn withoutGuests() {
        return Inns.withRooms(5, 6);
    }

    private static void moveTakesAGuestWhoIsThere() {
        Check.refusedFor("9: no guest", BoundaryCallsTest::withoutGuests, Check.INDEX, (i, g) -> i.move(g, 0), -1, 0);
        Check.same("9: the only guest", Check.answer(() -> small().move(0, 0)), 0);
        Check.refusedFor("9: one guest", BoundaryCallsTest::small, Check.INDEX, (i, g) -> i.move(g, 0), -1, 1);
        Check.same("9: the last of twelve", Check.answer(() -> Inns.full().move(11, 0)), 5);
        Check.refusedFor("9: twelve guests", Inns::full, Check.INDEX, (i, g) -> i.move(g, 0), -1, 12);
    }

    private static void moveTakesARoomThatIsThere() {
        Check.refusedFor("9: one room", BoundaryCallsTest::small, Check.INDEX, (i, r) -> i.move(0, r), -1, 1);
        Check.same("9: to the last of six", Check.answer(() -> Inns.full().move(0, 5)), 0);
        Check.refusedFor("9: six rooms", Inns::full, Check.INDEX, (i, r) -> i.move(11, r), -1, 6);
        Check.refused("9: neither guest nor room", Inns::full, Check.INDEX, i -> i.move(12, 6));
        Check.refused("9: nothing there at all", FireflyInn::new, Check.INDEX, i -> i.move(0, 0));
    }

    private static void moveRefusesOneWhoHasLeft() {
        Check.refused("9: the first has left", BoundaryCallsTest::leftByTwo, Check.STATE, i -> i.move(0, 1));
        Check.refused("9: the last has left", BoundaryCallsTest::leftByTwo, Check.STATE, i -> i.move(11, 5));
        Check.same("9: who stays beside them", Check.answer(() -> leftByTwo().move(1, 1)), 0);
    }

    private static void moveThrowsTheFirstNamed() {
        Check.refusedFor("9: no room, left", BoundaryCallsTest::leftByTwo, Check.INDEX, (i, r) -> i.move(0, r), -1, 6);
        Check.refused("9: no guest, no room, left", BoundaryCallsTest::leftByTwo, Check.INDEX, i -> i.move(12, 6));
    }

    private static void moveReturnsTheRoomBefore() {
        FireflyInn inn = Inns.full();
        Check.same("9: from the first to the last", inn.move(0, 5), 0);
        Check.same("9: where it is already", inn.move(0, 5), 5);
        Check.same("9: and back", inn.move(0, 0), 5);
        Check.same("9: there", inn.guest(0, 0), 0);
    }

    private static void leave() {
        Check.each(
            BoundaryCallsTest::leaveTakesAGuestWhoIsThere,
            BoundaryCallsTest::leaveRefusesOneWhoHasLeft,
            BoundaryCallsTest::leaveTakesTheJarAlong,
            BoundaryCallsTest::leaveReturnsWhatThisOneSaw);
    }

    private static void leaveTakesAGuestWhoIsThere() {
        Check.refusedFor("10: no guest", BoundaryCallsTest::withoutGuests, Check.INDEX, (i, g) -> i.leave(g), -1, 0);
        Check.same("10: the only guest", Check.answer(() -> small().leave(0)), 0);
        Check.refusedFor("10: one guest", BoundaryCallsTest::small, Check.INDEX, (i, g) -> i.leave(g), -1, 1);
        Check.same("10: the last of twelve", Check.answer(() -> Inns.full().leave(11)), 0);
        Check.refusedFor("10: twelve guests", Inns::full, Check.INDEX, (i, g) -> i.leave(g), -1, 12);
    }

    private static void leaveRefusesOneWhoHasLeft() {
        Check.refused("10: the first has left", BoundaryCallsTest::leftByTwo, Check.STATE, i -> i.leave(0));
        Check.refused("10: the last has left", BoundaryCallsTest::leftByTwo, Check.STATE, i -> i.leave(11));
        FireflyInn inn = leftByTwo();
        for (int g = 1; g < 11; g++) {
            Check.same("10: one by one", inn.leave(g), 0);
        }
        Check.same("10: all have left", inn.count(5) + " " + inn.count(6), "0 0");
    }

    private static void leaveTakesTheJarAlong() {
        FireflyInn inn = leftByTwo();
        Check.same("10: the jar of the first", Inns.allOfGuest(inn, 0), "0 9 0 0 0 1");
        Check.same("10: the jar of the last", Inns.allOfGuest(inn, 11), "5 9 0 0 0 1");
        Check.same("10: jars that are there", inn.count(6), 10);
        inn.pass(6);
        Check.same("10: what went along is not found", inn.count(7), 10);
    }

    private static void leaveReturnsWhatThisOneSaw() {
        FireflyInn inn = Inns.withDarkRooms(5, 0);
        inn.swarm(5, 0, 9);
        inn.stay(0, 0, false);
        inn.stay(1, 0, false);
        inn.pass(1);
        Check.same("10: who saw 9", inn.leave(0), 9);
        Check.same("10: who saw nothing", inn.leave(1), 0);
        inn.pass(8);
        Check.same("10: for good", Inns.allOfGuest(inn, 0), "0 0 0 0 9 1");
    }

    private static void hush() {
        Check.each(
            BoundaryCallsTest::hushTakesAGuestWhoIsThere,
            BoundaryCallsTest::hushTakes0To9,
            BoundaryCallsTest::hushThrowsTheFirstNamed,
            BoundaryCallsTest::hushAlsoTakesOneWhoHasLeft);
    }

    private static void hushTakesAGuestWhoIsThere() {
        Check.refusedFor("11: no guest", BoundaryCallsTest::withoutGuests, Check.INDEX, (i, g) -> i.hush(g, 0), -1, 0);
        Check.same("11: the only guest", Check.answer(() -> small().hush(0, 0)), 4);
        Check.refusedFor("11: one guest", BoundaryCallsTest::small, Check.INDEX, (i, g) -> i.hush(g, 0), -1, 1);
        Check.same("11: the last of twelve", Check.answer(() -> Inns.full().hush(11, 0)), 9);
        Check.refusedFor("11: twelve guests", Inns::full, Check.INDEX, (i, g) -> i.hush(g, 0), -1, 12);
    }

    private static void hushTakes0To9() {
        FireflyInn inn = small();
        Check.same("11: to 9", inn.hush(0, 9), 4);
        Check.same("11: 9 now", inn.guest(0, 1), 9);
        Check.same("11: to 0", inn.hush(0, 0), 9);
        Check.same("11: 0 now", inn.guest(0, 1), 0);
        Check.same("11: 0 before", inn.hush(0, 1), 0);
        Check.refusedFor("11: whisper", BoundaryCallsTest::small, Check.ARGUMENT, (i, w) -> i.hush(0, w), -1, 10);
        Check.refusedFor("11: whisper, all full", Inns::full, Check.ARGUMENT, (i, w) -> i.hush(11, w), -1, 10);
    }

    private static void hushThrowsTheFirstNamed() {
        for (int whisper : new int[] {-1, 10}) {
            Check.refused("11: no guest, whisper", Inns::full, Check.INDEX, i -> i.hush(12, whisper));
            Check.refused("11: no guest, whisper", Inns::full, Check.INDEX, i -> i.hush(-1, whisper));
            Check.refused("11: no guest at all", FireflyInn::new, Check.INDEX, i -> i.hush(0, whisper));
            Check.refused("11: whisper, left", BoundaryCallsTest::leftByTwo, Check.ARGUMENT, i -> i.hush(0, whisper));
        }
    }

    private static void hushAlsoTakesOneWhoHasLeft() {
        FireflyInn inn = leftByTwo();
        Check.same("11: one who has left", Check.answer(() -> inn.hush(0, 3)), 9);
        Check.same("11: whispers 3 from now on", Inns.allOfGuest(inn, 0), "0 3 0 0 0 1");
    }

    private static void guest() {
        Check.each(
            BoundaryCallsTest::guestTakesAGuestWhoIsThere,
            BoundaryCallsTest::guestTakesWhat0To5,
            BoundaryCallsTest::guestOfOneWhoHasLeft);
    }

    private static void guestTakesAGuestWhoIsThere() {
        Check.refusedFor("12: no guest", BoundaryCallsTest::withoutGuests, Check.INDEX, (i, g) -> i.guest(g, 5), -1, 0);
        Check.same("12: the only guest", Inns.allOfGuest(small(), 0), "0 4 1 0 0 0");
        Check.refusedFor("12: one guest", BoundaryCallsTest::small, Check.INDEX, (i, g) -> i.guest(g, 0), -1, 1);
        Check.same("12: the last of twelve", Inns.allOfGuest(Inns.full(), 11), "5 9 1 0 0 0");
        Check.refusedFor("12: twelve guests", Inns::full, Check.INDEX, (i, g) -> i.guest(g, 0), -1, 12);
        Check.refused("12: neither guest nor what", Inns::full, Check.INDEX, i -> i.guest(12, 6));
    }

    private static void guestTakesWhat0To5() {
        Check.told("12: what 0", Inns::full, 5, i -> i.guest(11, 0));
        Check.told("12: what 5", BoundaryCallsTest::leftByTwo, 1, i -> i.guest(11, 5));
        Check.refusedFor("12: what", BoundaryCallsTest::small, Check.INDEX, (i, w) -> i.guest(0, w), -1, 6);
        Check.refusedFor("12: what, all full", Inns::full, Check.INDEX, (i, w) -> i.guest(11, w), -1, 6);
    }

    private static void guestOfOneWhoHasLeft() {
        FireflyInn inn = Inns.withDarkRooms(4, 5);
        inn.swarm(5, 4, 9);
        inn.stay(0, 6, true);
        inn.move(0, 1);
        inn.pass(1);
        Check.same("12: one who stays", Inns.allOfGuest(inn, 0), "1 6 1 3 9 0");
        inn.leave(0);
        Check.same("12: one who has left, from the last room", Inns.allOfGuest(inn, 0), "1 6 0 3 9 1");
    }

    private static void count() {
        Check.each(
            BoundaryCallsTest::countTakesWhat0To8,
            BoundaryCallsTest::countOfNothing,
            BoundaryCallsTest::countOfAllFull,
            BoundaryCallsTest::countOfThoseWhoStay);
    }

    private static void countTakesWhat0To8() {
        Check.told("13: what 0", BoundaryCallsTest::small, 0, i -> i.count(0));
        Check.told("13: what 8", BoundaryCallsTest::small, 3, i -> i.count(8));
        Check.refusedFor("13: what, nothing there", FireflyInn::new, Check.INDEX, (i, w) -> i.count(w), -1, 9);
        Check.refusedFor("13: what, all full", Inns::full, Check.INDEX, (i, w) -> i.count(w), -1, 9);
    }

    private static void countOfNothing() {
        Check.same("13: nothing there at all", Inns.counts(new FireflyInn()), "0 0 0 0 0 0 0 0 0");
    }

    private static void countOfAllFull() {
        Check.same("13: all full", Inns.counts(Inns.full()), "0 0 2000 6 6 12 12 0 10");
    }

    private static void countOfThoseWhoStay() {
        Check.same("13: two have left", Inns.counts(leftByTwo()), "0 0 2000 6 6 10 10 0 10");
        FireflyInn inn = Inns.withRooms(5);
        inn.stay(0, 0, true);
        inn.stay(0, 0, false);
        inn.leave(0);
        Check.same("13: who stays has no jar", inn.count(5) + " " + inn.count(6), "1 0");
    }
}
