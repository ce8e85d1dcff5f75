import java.math.BigInteger;

/**
 * The sentences of the document on what would be that name a boundary case (the promises 15 to 20), and the 512 calls
 * of an object, each by a test of its own. What is due was reckoned by hand.
 */
public final class BoundaryForesightTest {
    // What 12 guests see in 60 nights, if each sees 600 by no moon: 7 times 1900, and 600, 300, 200 and 150; from the
    // night 4, where the next 60 begin, 7 times 1900, and 0, 150, 200 and 300.
    private static final int FROM_NEW_MOON = 12 * (7 * 1900 + 1250);
    private static final int FROM_FULL_MOON = 12 * (7 * 1900 + 650);

    public static void main(String[] args) {
        dark();
        foresee();
        advise();
        harm();
        mean();
        digest();
        calls();
        Check.end();
    }

    /** What all guests of this inn see is told by the moon alone: 12, 6, 4, 3, 0, 3, 4, 6. */
    private static FireflyInn steady() {
        FireflyInn inn = Inns.withDarkRooms(5);
        inn.swarm(5, 0, 6);
        inn.swarm(4, 4, 6);
        inn.stay(0, 0, false);
        return inn;
    }

    private static FireflyInn inTheNight(int night) {
        FireflyInn inn = new FireflyInn();
        for (int n = 0; n < night; n++) {
            inn.pass(1);
        }
        return inn;
    }

    private static void dark() {
        Check.each(
            BoundaryForesightTest::darkTakes0To4,
            BoundaryForesightTest::darkIs0InTheNightThatIsNext,
            BoundaryForesightTest::darkIsForALightOfAtMostThis,
            BoundaryForesightTest::darkIsForTheFirstTime);
    }

    private static void darkTakes0To4() {
        Check.told("15: most 0", () -> inTheNight(4), 4, inn -> inn.dark(0));
        Check.told("15: most 4", () -> inTheNight(4), 0, inn -> inn.dark(4));
        Check.refusedFor("15: most", FireflyInn::new, Check.ARGUMENT, (inn, most) -> inn.dark(most), -1, 5);
        Check.refusedFor("15: most, all full", Inns::full, Check.ARGUMENT, (inn, most) -> inn.dark(most), -1, 5);
    }

    private static void darkIs0InTheNightThatIsNext() {
        int[] light = {0, 1, 2, 3, 4, 3, 2, 1, 0};
        for (int night = 0; night < light.length; night++) {
            for (int most = light[night]; most <= 4; most++) {
                Check.same("15: dark enough in the night " + night, inTheNight(night).dark(most), 0);
            }
        }
    }

    private static void darkIsForALightOfAtMostThis() {
        Check.same("15: from 4 to 3", inTheNight(4).dark(3), 1);
        Check.same("15: from 4 to 2", inTheNight(4).dark(2), 2);
        Check.same("15: from 4 to 1", inTheNight(4).dark(1), 3);
        Check.same("15: from 4 to 0", inTheNight(4).dark(0), 4);
        Check.same("15: from 3, while it grows, to 2", inTheNight(3).dark(2), 3);
        Check.same("15: from 3, while it wanes, to 2", inTheNight(5).dark(2), 1);
    }

    private static void darkIsForTheFirstTime() {
        Check.same("15: 7 nights, the most there can be", inTheNight(1).dark(0), 7);
        Check.same("15: the night before the dark one", inTheNight(7).dark(0), 1);
        Check.same("15: the dark one", inTheNight(8).dark(0), 0);
        Check.same("15: and not the one 8 behind it", inTheNight(9).dark(1), 0);
        FireflyInn last = new FireflyInn();
        for (int call = 1; call <= 511; call++) {
            last.pass(60);
        }
        Check.same("15: in the night 30660", last.dark(0), 4);
    }

    private static void foresee() {
        Check.each(
            BoundaryForesightTest::foreseeTakes1To60,
            BoundaryForesightTest::foreseeTakesWhat0To2,
            BoundaryForesightTest::foreseeThrowsTheFirstNamed,
            BoundaryForesightTest::foreseeOfNothing,
            BoundaryForesightTest::foreseeOfAllFull,
            BoundaryForesightTest::foreseeWhatIsSeenInThemAlone,
            BoundaryForesightTest::foreseeAllFirefliesThen,
            BoundaryForesightTest::foreseeWhatJarsTakeInThemAlone);
    }

    private static void foreseeTakes1To60() {
        Check.told("16: 1 night", BoundaryForesightTest::steady, 12, inn -> inn.foresee(1, 0));
        Check.told("16: 59 nights", BoundaryForesightTest::steady, 7 * 38 + 22, inn -> inn.foresee(59, 0));
        Check.told("16: 60 nights", BoundaryForesightTest::steady, 7 * 38 + 25, inn -> inn.foresee(60, 0));
        for (int what = 0; what <= 2; what++) {
            int w = what;
            Check.refusedFor("16: nights", BoundaryForesightTest::steady, Check.ARGUMENT, (inn, n) -> inn.foresee(n, w),
                -1, 0, 61);
            Check.refusedFor("16: nights, all full", Inns::full, Check.ARGUMENT, (inn, n) -> inn.foresee(n, w), 0, 61);
        }
    }

    private static void foreseeTakesWhat0To2() {
        Check.told("16: what 0", BoundaryForesightTest::steady, 12 + 6, inn -> inn.foresee(2, 0));
        Check.told("16: what 1", BoundaryForesightTest::steady, 12, inn -> inn.foresee(2, 1));
        Check.told("16: what 2", BoundaryForesightTest::steady, 0, inn -> inn.foresee(2, 2));
        for (int nights : new int[] {1, 60}) {
            Check.refusedFor("16: what", BoundaryForesightTest::steady, Check.INDEX,
                (inn, what) -> inn.foresee(nights, what), -1, 3);
            Check.refusedFor("16: what, all full", Inns::full, Check.INDEX,
                (inn, what) -> inn.foresee(nights, what), -1, 3);
        }
    }

    private static void foreseeThrowsTheFirstNamed() {
        for (int nights : new int[] {-1, 0, 61}) {
            Check.refusedFor("16: nights and what", BoundaryForesightTest::steady, Check.ARGUMENT,
                (inn, what) -> inn.foresee(nights, what), -1, 3);
        }
    }

    private static void foreseeOfNothing() {
        for (int what = 0; what <= 2; what++) {
            int w = what;
            Check.told("16: nothing there at all", FireflyInn::new, 0, inn -> inn.foresee(1, w));
            Check.told("16: nothing there at all", FireflyInn::new, 0, inn -> inn.foresee(60, w));
        }
    }

    private static void foreseeOfAllFull() {
        // All is lit and full, so that none move, fall or grow; the warden finds the jars of a room each night.
        Check.told("16: all full, seen", Inns::full, 0, inn -> inn.foresee(60, 0));
        Check.told("16: all full, left of 1 night", Inns::full, 2000 - 36, inn -> inn.foresee(1, 1));
        Check.told("16: all full, left", Inns::full, 2000 - 126, inn -> inn.foresee(60, 1));
        Check.told("16: all full, taken in 1 night", Inns::full, 36, inn -> inn.foresee(1, 2));
        Check.told("16: all full, taken", Inns::full, 36 + 30 + 24 + 18 + 12 + 6, inn -> inn.foresee(60, 2));
    }

    private static FireflyInn steadyLater() {
        FireflyInn inn = steady();
        inn.pass(3);
        return inn;
    }

    private static void foreseeWhatIsSeenInThemAlone() {
        Check.told("16: from the night 3, 1 night", BoundaryForesightTest::steadyLater, 3, inn -> inn.foresee(1, 0));
        Check.told("16: from the night 3, 2 nights", BoundaryForesightTest::steadyLater, 3, inn -> inn.foresee(2, 0));
        Check.told("16: from the night 3, 3 nights", BoundaryForesightTest::steadyLater, 6, inn -> inn.foresee(3, 0));
        Check.told("16: from the night 3, 8 nights", BoundaryForesightTest::steadyLater, 38, inn -> inn.foresee(8, 0));
    }

    /** Without rooms a cell of 10 grows by 1 until 20, by 2 until 30, by 3 until 39, and to 40. */
    private static FireflyInn growing() {
        FireflyInn inn = new FireflyInn();
        inn.swarm(3, 3, 10);
        return inn;
    }

    private static void foreseeAllFirefliesThen() {
        Check.told("16: behind 1 night", BoundaryForesightTest::growing, 11, inn -> inn.foresee(1, 1));
        Check.told("16: behind 10 nights", BoundaryForesightTest::growing, 20, inn -> inn.foresee(10, 1));
        Check.told("16: behind 15 nights", BoundaryForesightTest::growing, 30, inn -> inn.foresee(15, 1));
        Check.told("16: behind 18 nights", BoundaryForesightTest::growing, 39, inn -> inn.foresee(18, 1));
        Check.told("16: behind 19 nights", BoundaryForesightTest::growing, 40, inn -> inn.foresee(19, 1));
        Check.told("16: behind 60 nights", BoundaryForesightTest::growing, 40, inn -> inn.foresee(60, 1));
    }

    /** Three guests with jars in room 1 of two, where 10 are; one has left. The warden comes in the night 1. */
    private static FireflyInn threeJars() {
        FireflyInn inn = Inns.withDarkRooms(0, 5);
        inn.swarm(5, 4, 10);
        inn.stay(1, 0, true);
        inn.stay(1, 0, true);
        inn.stay(1, 0, true);
        inn.leave(1);
        return inn;
    }

    private static FireflyInn threeJarsLater(int nights) {
        FireflyInn inn = threeJars();
        inn.pass(nights);
        return inn;
    }

    private static void foreseeWhatJarsTakeInThemAlone() {
        Check.told("16: taken in 1 night", BoundaryForesightTest::threeJars, 6, inn -> inn.foresee(1, 2));
        Check.told("16: taken in 2 nights", BoundaryForesightTest::threeJars, 10, inn -> inn.foresee(2, 2));
        Check.told("16: taken in 60 nights", BoundaryForesightTest::threeJars, 10, inn -> inn.foresee(60, 2));
        Check.told("16: not what was taken before", () -> threeJarsLater(1), 4, inn -> inn.foresee(60, 2));
        Check.told("16: all jars are found", () -> threeJarsLater(2), 0, inn -> inn.foresee(60, 2));
    }

    private static void advise() {
        Check.each(
            BoundaryForesightTest::adviseTakes1To30,
            BoundaryForesightTest::adviseWithoutAnyToPutOut,
            BoundaryForesightTest::adviseIfTheySeeNoMore,
            BoundaryForesightTest::adviseIfTheySeeLess,
            BoundaryForesightTest::adviseIfTheySeeOneMore,
            BoundaryForesightTest::adviseTheSmallestOfSeveral,
            BoundaryForesightTest::adviseTheFirstAndTheLastRoom,
            BoundaryForesightTest::adviseForSoManyNights,
            BoundaryForesightTest::adviseOfAllFull);
    }

    /** A guest in a room whose lamp burns; the fireflies at its window stay there. */
    private static FireflyInn behindALamp() {
        FireflyInn inn = Inns.withRooms(5);
        inn.swarm(5, 0, 9);
        inn.stay(0, 0, false);
        return inn;
    }

    private static void adviseTakes1To30() {
        Check.told("17: 1 night", BoundaryForesightTest::behindALamp, 0, inn -> inn.advise(1));
        Check.told("17: 30 nights", BoundaryForesightTest::behindALamp, 0, inn -> inn.advise(30));
        Check.refusedFor("17: nights", BoundaryForesightTest::behindALamp, Check.ARGUMENT, (inn, n) -> inn.advise(n),
            -1, 0, 31, 60);
        Check.refusedFor("17: nights, no room", FireflyInn::new, Check.ARGUMENT, (inn, n) -> inn.advise(n), 0, 31);
        Check.refusedFor("17: nights, all full", Inns::full, Check.ARGUMENT, (inn, n) -> inn.advise(n), 0, 31);
    }

    private static FireflyInn usefulLampPutOut() {
        FireflyInn inn = usefulLamp();
        inn.lamp(0);
        return inn;
    }

    private static void adviseWithoutAnyToPutOut() {
        Check.told("17: no room", FireflyInn::new, -1, inn -> inn.advise(30));
        Check.told("17: no lamp that burns", BoundaryForesightTest::steady, -1, inn -> inn.advise(30));
        Check.told("17: none is to be lit", BoundaryForesightTest::usefulLampPutOut, -1, inn -> inn.advise(1));
    }

    private static FireflyInn withoutGuests() {
        FireflyInn inn = Inns.withRooms(5);
        inn.swarm(5, 0, 9);
        return inn;
    }

    private static FireflyInn whoHasLeft() {
        FireflyInn inn = behindALamp();
        inn.leave(0);
        return inn;
    }

    private static FireflyInn withoutFireflies() {
        FireflyInn inn = Inns.withRooms(5);
        inn.stay(0, 0, true);
        return inn;
    }

    /** A guest in the dark, and far from it a lamp. */
    private static FireflyInn farLamp() {
        FireflyInn inn = Inns.withRooms(8, 1);
        inn.lamp(1);
        inn.swarm(1, 0, 9);
        inn.swarm(8, 0, 9);
        inn.stay(1, 0, false);
        return inn;
    }

    private static void adviseIfTheySeeNoMore() {
        Check.told("17: no guest", BoundaryForesightTest::withoutGuests, -1, inn -> inn.advise(30));
        Check.told("17: the guest has left", BoundaryForesightTest::whoHasLeft, -1, inn -> inn.advise(30));
        Check.told("17: no firefly", BoundaryForesightTest::withoutFireflies, -1, inn -> inn.advise(30));
        Check.told("17: as many as before", BoundaryForesightTest::farLamp, -1, inn -> inn.advise(30));
    }

    /** A guest in the dark, to whose column 3 the lamp drives half of the fireflies of the column 4. */
    private static FireflyInn usefulLamp() {
        FireflyInn inn = Inns.withRooms(5, 2);
        inn.lamp(1);
        inn.swarm(4, 0, 8);
        inn.stay(1, 0, false);
        return inn;
    }

    private static void adviseIfTheySeeLess() {
        Check.same("17: seen by the lamp", usefulLamp().foresee(1, 0), 4);
        Check.told("17: less than before", BoundaryForesightTest::usefulLamp, -1, inn -> inn.advise(1));
        Check.told("17: less than before, in 30 nights", BoundaryForesightTest::usefulLamp, -1, inn -> inn.advise(30));
    }

    /**
     * Two guests in the dark see 4 each by the lamp of a third; without it they see nothing, but the third sees the 8
     * of the column 4 and what is right of the window.
     */
    private static FireflyInn balanced(int right) {
        FireflyInn inn = usefulLamp();
        inn.swarm(6, 0, right);
        inn.stay(1, 0, false);
        inn.stay(0, 0, false);
        return inn;
    }

    private static FireflyInn oneFireflyBehindALamp() {
        FireflyInn inn = Inns.withRooms(5);
        inn.swarm(5, 4, 1);
        inn.stay(0, 0, false);
        return inn;
    }

    private static void adviseIfTheySeeOneMore() {
        Check.told("17: 1 instead of 0", BoundaryForesightTest::oneFireflyBehindALamp, 0, inn -> inn.advise(1));
        Check.told("17: 8 instead of 8", () -> balanced(0), -1, inn -> inn.advise(1));
        Check.told("17: 9 instead of 8", () -> balanced(1), 0, inn -> inn.advise(1));
    }

    /** Guests behind the lamps of three rooms, who would see as many as this. */
    private static FireflyInn threeLamps(int first, int second, int third) {
        FireflyInn inn = Inns.withRooms(0, 4, 9);
        inn.swarm(0, 0, first);
        inn.swarm(4, 0, second);
        inn.swarm(9, 0, third);
        for (int r = 0; r < 3; r++) {
            inn.stay(r, 0, false);
        }
        return inn;
    }

    private static void adviseTheSmallestOfSeveral() {
        Check.told("17: three alike", () -> threeLamps(7, 7, 7), 0, inn -> inn.advise(1));
        Check.told("17: the last two alike", () -> threeLamps(6, 7, 7), 1, inn -> inn.advise(1));
        Check.told("17: the last one", () -> threeLamps(6, 6, 7), 2, inn -> inn.advise(1));
        Check.told("17: the first one", () -> threeLamps(7, 6, 6), 0, inn -> inn.advise(1));
        Check.told("17: the first and the last", () -> threeLamps(7, 6, 7), 0, inn -> inn.advise(1));
        Check.told("17: the middle one", () -> threeLamps(6, 7, 6), 1, inn -> inn.advise(1));
        Check.told("17: the last one, in 30 nights", () -> threeLamps(6, 6, 7), 2, inn -> inn.advise(30));
    }

    private static FireflyInn sixRoomsWithAGuestIn(int room) {
        FireflyInn inn = Inns.withRooms(0, 2, 4, 6, 8, 9);
        inn.swarm(0, 0, 9);
        inn.swarm(9, 0, 9);
        inn.stay(room, 0, false);
        return inn;
    }

    private static void adviseTheFirstAndTheLastRoom() {
        Check.told("17: room 0", () -> sixRoomsWithAGuestIn(0), 0, inn -> inn.advise(1));
        Check.told("17: room 5 of six", () -> sixRoomsWithAGuestIn(5), 5, inn -> inn.advise(1));
        Check.told("17: a room where there is nothing", () -> sixRoomsWithAGuestIn(2), -1, inn -> inn.advise(1));
    }

    /** It is the night 1, and one firefly is seen by no moon alone: in the night 8, the eighth from now. */
    private static FireflyInn seenInTheNight8() {
        FireflyInn inn = Inns.withRooms(5);
        inn.swarm(5, 0, 1);
        inn.stay(0, 0, false);
        inn.pass(1);
        return inn;
    }

    private static FireflyInn behindALampAtFullMoon() {
        FireflyInn inn = behindALamp();
        inn.pass(4);
        return inn;
    }

    private static void adviseForSoManyNights() {
        Check.told("17: 7 nights are too few", BoundaryForesightTest::seenInTheNight8, -1, inn -> inn.advise(7));
        Check.told("17: 8 nights", BoundaryForesightTest::seenInTheNight8, 0, inn -> inn.advise(8));
        Check.told("17: the full moon", BoundaryForesightTest::behindALampAtFullMoon, -1, inn -> inn.advise(1));
        Check.told("17: the night behind it", BoundaryForesightTest::behindALampAtFullMoon, 0, inn -> inn.advise(2));
    }

    private static void adviseOfAllFull() {
        // Without the lamp of room 4 all stays lit, and its guests see 600 each; no other's see as many.
        Check.told("17: all full", Inns::full, 4, inn -> inn.advise(1));
    }

    private static void harm() {
        Check.each(
            BoundaryForesightTest::harmTakes1To30,
            BoundaryForesightTest::harmWithoutJars,
            BoundaryForesightTest::harmOfThoseWhoStay,
            BoundaryForesightTest::harmIfThereAreNoMore,
            BoundaryForesightTest::harmIfThereIsOneMore,
            BoundaryForesightTest::harmTheSmallestOfSeveral,
            BoundaryForesightTest::harmTheFirstAndTheLastGuest,
            BoundaryForesightTest::harmBehindSoManyNights,
            BoundaryForesightTest::harmOfAllFull);
    }

    /** A guest with a jar at x 5, where there are so many; the warden comes in the night 1. */
    private static FireflyInn withAJar(int many) {
        FireflyInn inn = Inns.withDarkRooms(0, 5);
        inn.swarm(5, 2, many);
        inn.stay(1, 0, true);
        return inn;
    }

    private static void harmTakes1To30() {
        Check.told("18: 1 night", () -> withAJar(9), 0, inn -> inn.harm(1));
        Check.told("18: 30 nights", () -> withAJar(9), 0, inn -> inn.harm(30));
        Check.refusedFor("18: nights", () -> withAJar(9), Check.ARGUMENT, (inn, n) -> inn.harm(n), -1, 0, 31, 60);
        Check.refusedFor("18: nights, no guest", FireflyInn::new, Check.ARGUMENT, (inn, n) -> inn.harm(n), 0, 31);
        Check.refusedFor("18: nights, all full", Inns::full, Check.ARGUMENT, (inn, n) -> inn.harm(n), 0, 31);
    }

    private static void harmWithoutJars() {
        Check.told("18: nothing there at all", FireflyInn::new, -1, inn -> inn.harm(30));
        Check.told("18: no guest", BoundaryForesightTest::withoutGuests, -1, inn -> inn.harm(30));
        Check.told("18: no jar", BoundaryForesightTest::steady, -1, inn -> inn.harm(30));
        Check.told("18: the jar was found", () -> {
            FireflyInn inn = withAJar(9);
            inn.pass(2);
            return inn;
        }, -1, inn -> inn.harm(30));
    }

    private static void harmOfThoseWhoStay() {
        Check.told("18: the only one has left", () -> {
            FireflyInn inn = withAJar(9);
            inn.leave(0);
            return inn;
        }, -1, inn -> inn.harm(30));
        Check.told("18: the first of two has left", () -> {
            FireflyInn inn = withAJar(9);
            inn.stay(1, 0, true);
            inn.leave(0);
            return inn;
        }, 1, inn -> inn.harm(1));
    }

    private static FireflyInn twoJars(int many) {
        FireflyInn inn = withAJar(many);
        inn.stay(1, 0, true);
        return inn;
    }

    private static void harmIfThereAreNoMore() {
        Check.told("18: no firefly", () -> withAJar(0), -1, inn -> inn.harm(30));
        Check.told("18: the other jar takes as many", () -> twoJars(3), -1, inn -> inn.harm(1));
        Check.told("18: 40 in both cases", () -> withAJar(40), -1, inn -> inn.harm(30));
    }

    private static void harmIfThereIsOneMore() {
        Check.told("18: one firefly", () -> withAJar(1), 0, inn -> inn.harm(1));
        Check.told("18: the other jar leaves one of 4", () -> twoJars(4), 0, inn -> inn.harm(1));
        // 39 less 3 are 36, which grow to 39; without the jar there are 40.
        Check.told("18: 39 instead of 40", () -> withAJar(39), 0, inn -> inn.harm(1));
    }

    /** Guests with jars in three rooms, at whose windows there are so many; the warden comes to none at first. */
    private static FireflyInn threeWindows(int first, int second, int third) {
        FireflyInn inn = Inns.withDarkRooms(2, 4, 6, 8);
        inn.swarm(4, 0, first);
        inn.swarm(6, 0, second);
        inn.swarm(8, 0, third);
        for (int r = 1; r <= 3; r++) {
            inn.stay(r, 0, true);
        }
        return inn;
    }

    private static void harmTheSmallestOfSeveral() {
        Check.told("18: three alike", () -> threeWindows(3, 3, 3), 0, inn -> inn.harm(1));
        Check.told("18: the last two alike", () -> threeWindows(2, 3, 3), 1, inn -> inn.harm(1));
        Check.told("18: the last one", () -> threeWindows(2, 2, 3), 2, inn -> inn.harm(1));
        Check.told("18: the first one", () -> threeWindows(3, 2, 2), 0, inn -> inn.harm(1));
        Check.told("18: the first and the last", () -> threeWindows(3, 2, 3), 0, inn -> inn.harm(1));
        Check.told("18: the middle one", () -> threeWindows(2, 3, 2), 1, inn -> inn.harm(1));
        Check.told("18: 3 are the most of any", () -> threeWindows(3, 9, 4), 0, inn -> inn.harm(1));
    }

    private static FireflyInn twelveGuestsAndTheJarOf(int guest) {
        FireflyInn inn = Inns.withDarkRooms(0, 5);
        inn.swarm(5, 2, 9);
        for (int g = 0; g < 12; g++) {
            inn.stay(1, 0, g == guest);
        }
        return inn;
    }

    private static void harmTheFirstAndTheLastGuest() {
        Check.told("18: guest 0 of twelve", () -> twelveGuestsAndTheJarOf(0), 0, inn -> inn.harm(1));
        Check.told("18: guest 11 of twelve", () -> twelveGuestsAndTheJarOf(11), 11, inn -> inn.harm(1));
        Check.told("18: none of twelve", () -> twelveGuestsAndTheJarOf(12), -1, inn -> inn.harm(1));
    }

    /** The loud guest's jar takes of 40 in the night 0, which are 40 again, and of 22, not 40, in the night 1. */
    private static FireflyInn harmfulInTheNight1() {
        FireflyInn inn = Inns.withDarkRooms(0, 5);
        Inns.setColumn(inn, 5, 0, 0, 40, 0, 20);
        inn.stay(1, 9, true);
        inn.stay(1, 1, false);
        return inn;
    }

    /** Two lamps drive 38 to the jar in the night 0; by 18 more the cell is full in the night 1, with the jar too. */
    private static FireflyInn harmfulInTheNight0() {
        FireflyInn inn = Inns.withRooms(2, 6, 4);
        inn.lamp(2);
        inn.swarm(3, 0, 38);
        inn.swarm(5, 0, 38);
        inn.stay(2, 0, true);
        return inn;
    }

    private static void harmBehindSoManyNights() {
        Check.told("18: 1 night is too few", BoundaryForesightTest::harmfulInTheNight1, -1, inn -> inn.harm(1));
        Check.told("18: 2 nights", BoundaryForesightTest::harmfulInTheNight1, 0, inn -> inn.harm(2));
        Check.told("18: 1 night is enough", BoundaryForesightTest::harmfulInTheNight0, 0, inn -> inn.harm(1));
        Check.told("18: 2 nights are too many", BoundaryForesightTest::harmfulInTheNight0, -1, inn -> inn.harm(2));
    }

    private static void harmOfAllFull() {
        // A jar takes 3 in each night until it is found: those of the room 5 do the most harm behind 6 nights.
        Check.told("18: all full, 1 night", Inns::full, 0, inn -> inn.harm(1));
        Check.told("18: all full, 6 nights", Inns::full, 10, inn -> inn.harm(6));
        Check.told("18: all full, 30 nights", Inns::full, 10, inn -> inn.harm(30));
    }

    private static void mean() {
        Check.each(
            BoundaryForesightTest::meanIs0WithoutAny,
            BoundaryForesightTest::meanOfThoseWhoSawNothing,
            BoundaryForesightTest::meanIsNotCut,
            BoundaryForesightTest::meanAlsoOfThoseWhoHaveLeft,
            BoundaryForesightTest::meanOfAllGuests);
    }

    private static void meanIs0WithoutAny() {
        Check.told("19: nothing there at all", FireflyInn::new, 0.0, FireflyInn::mean);
        Check.told("19: no guest", BoundaryForesightTest::withoutGuests, 0.0, FireflyInn::mean);
    }

    private static void meanOfThoseWhoSawNothing() {
        Check.told("19: one who saw nothing", BoundaryForesightTest::steady, 0.0, FireflyInn::mean);
        Check.told("19: twelve who saw nothing", Inns::full, 0.0, FireflyInn::mean);
    }

    private static FireflyInn oneOfTwelveSaw(int many) {
        FireflyInn inn = Inns.withRooms(5, 5);
        inn.lamp(0);
        inn.swarm(5, 0, many);
        inn.stay(0, 0, false);
        for (int g = 1; g < 12; g++) {
            inn.stay(1, 0, false);
        }
        inn.pass(1);
        return inn;
    }

    private static void meanIsNotCut() {
        Check.told("19: 1 by 12", () -> oneOfTwelveSaw(1), 1.0 / 12.0, FireflyInn::mean);
        Check.told("19: 11 by 12", () -> oneOfTwelveSaw(11), 11.0 / 12.0, FireflyInn::mean);
        Check.told("19: 12 by 12", () -> oneOfTwelveSaw(12), 1.0, FireflyInn::mean);
        Check.told("19: 18 by 12", () -> oneOfTwelveSaw(18), 1.5, FireflyInn::mean);
    }

    private static void meanAlsoOfThoseWhoHaveLeft() {
        Check.told("19: who saw 18 has left", () -> {
            FireflyInn inn = oneOfTwelveSaw(18);
            inn.leave(0);
            return inn;
        }, 1.5, FireflyInn::mean);
        Check.told("19: all have left", () -> {
            FireflyInn inn = oneOfTwelveSaw(18);
            for (int g = 0; g < 12; g++) {
                inn.leave(g);
            }
            return inn;
        }, 1.5, FireflyInn::mean);
    }

    private static void meanOfAllGuests() {
        Check.told("19: twelve who saw 9 each", () -> {
            FireflyInn inn = Inns.withDarkRooms(5);
            inn.swarm(5, 0, 9);
            for (int g = 0; g < 12; g++) {
                inn.stay(0, 0, false);
            }
            inn.pass(1);
            return inn;
        }, 9.0, FireflyInn::mean);
    }

    private static void digest() {
        Check.each(
            BoundaryForesightTest::digestOfANewInn,
            BoundaryForesightTest::digestHasWrappedAround,
            BoundaryForesightTest::digestOfAllFull,
            BoundaryForesightTest::digestOfCellsBy10TimesYPlusX,
            BoundaryForesightTest::digestOfRoomsAndGuestsInTheirOrder,
            BoundaryForesightTest::digestChangesNothing);
    }

    /** The checksum of the document, reckoned without a wrap-around and cut to its last 64 bits at the end. */
    private static long checksum(String numbers) {
        BigInteger d = BigInteger.valueOf(1093);
        for (String x : numbers.trim().split(" +")) {
            d = d.multiply(BigInteger.valueOf(31)).add(new BigInteger(x));
        }
        return d.longValue();
    }

    private static String cells(String many) {
        return (" " + many).repeat(50);
    }

    private static void digestOfANewInn() {
        long due = checksum("0 0 0 0 0 0 0 0 0" + cells("0"));
        Check.same("20: a new inn, reckoned at length", new FireflyInn().digest(), due);
        Check.same("20: a new inn", new FireflyInn().digest(), -1422870478389556069L);
    }

    private static FireflyInn behindANight() {
        FireflyInn inn = Inns.withDarkRooms(5);
        inn.swarm(5, 0, 9);
        inn.stay(0, 7, true);
        inn.stay(0, 2, true);
        inn.leave(1);
        inn.pass(1);
        return inn;
    }

    private static void digestHasWrappedAround() {
        // 1093 times 31 to the 11th is above the greatest long already, and there are 59 numbers at least.
        String row = " 0 0 0 0 0 6 0 0 0 0";
        String numbers = "1 1 6 1 0 1 0 1 0" + row + " 0".repeat(40) + " 5 0 1 7 0  0 7 0 3 9 0  0 2 0 0 0 1";
        Check.same("20: behind a night, reckoned at length", behindANight().digest(), checksum(numbers));
        Check.same("20: behind a night, below 0", behindANight().digest(), -5031680437100000801L);
        FireflyInn above = new FireflyInn();
        above.swarm(9, 4, 1);
        Check.same("20: one firefly, above 0", above.digest(), 2393973619966825885L);
    }

    private static void digestOfAllFull() {
        StringBuilder numbers = new StringBuilder("0 0 2000 6 6 12 12 0 10" + cells("40"));
        for (int window : new int[] {0, 2, 4, 6, 8, 9}) {
            numbers.append(' ').append(window).append(" 1 2 18 2");
        }
        for (int g = 0; g < 12; g++) {
            numbers.append(' ').append(g / 2).append(" 9 1 0 0 0");
        }
        Check.same("20: all full, reckoned at length", Inns.full().digest(), checksum(numbers.toString()));
        Check.same("20: all full", Inns.full().digest(), -2912228258697156964L);
    }

    private static long digestOfOneFireflyAt(int x, int y) {
        FireflyInn inn = new FireflyInn();
        inn.swarm(x, y, 1);
        return inn.digest();
    }

    private static void digestOfCellsBy10TimesYPlusX() {
        Check.same("20: the first cell", digestOfOneFireflyAt(0, 0), 1703226519275502523L);
        Check.same("20: the second cell", digestOfOneFireflyAt(1, 0), -3578871148994039907L);
        Check.same("20: the tenth cell", digestOfOneFireflyAt(9, 0), -8464299448285560675L);
        Check.same("20: the eleventh cell", digestOfOneFireflyAt(0, 1), 1448650486355150459L);
        Check.same("20: the last cell", digestOfOneFireflyAt(9, 4), 2393973619966825885L);
    }

    private static void digestOfRoomsAndGuestsInTheirOrder() {
        String start = "0 0 0 2 2 2 1 0 3" + cells("0");
        Check.same("20: one in each room", digestOfTwo(0, 1, 3, 8),
            checksum(start + " 5 1 1 3 1  5 1 1 8 0  0 3 1 0 0 0  1 8 0 0 0 0"));
        Check.same("20: the rooms changed", digestOfTwo(1, 0, 3, 8),
            checksum(start + " 5 1 1 8 0  5 1 1 3 1  1 3 1 0 0 0  0 8 0 0 0 0"));
        Check.same("20: both in the last room", digestOfTwo(1, 1, 0, 9),
            checksum(start + " 5 1 0 0 0  5 1 2 9 1  1 0 1 0 0 0  1 9 0 0 0 0"));
    }

    private static long digestOfTwo(int firstRoom, int secondRoom, int firstWhisper, int secondWhisper) {
        FireflyInn inn = Inns.withRooms(5, 5);
        inn.stay(firstRoom, firstWhisper, true);
        inn.stay(secondRoom, secondWhisper, false);
        return inn.digest();
    }

    private static void digestChangesNothing() {
        Check.told("20: asked of a new inn", FireflyInn::new, -1422870478389556069L, FireflyInn::digest);
        Check.told("20: asked of all full", Inns::full, -2912228258697156964L, FireflyInn::digest);
    }

    private static void calls() {
        Check.each(
            BoundaryForesightTest::the512thCallStillAnswers,
            BoundaryForesightTest::what512CallsAddUpTo,
            BoundaryForesightTest::the512thCallStillRefuses,
            BoundaryForesightTest::the512thCallStillForesees);
    }

    /** Made by 29 calls: 12 guests in the dark, who see 600 each; nothing ever changes there but the night. */
    private static FireflyInn busiest() {
        FireflyInn inn = Inns.withDarkRooms(5);
        for (int x = 4; x <= 6; x++) {
            Inns.setColumn(inn, x, 40, 40, 40, 40, 40);
        }
        for (int g = 0; g < 12; g++) {
            inn.stay(0, 0, false);
        }
        return inn;
    }

    private static void the512thCallStillAnswers() {
        FireflyInn inn = busiest();
        for (int call = 30; call <= 512; call++) {
            Check.same("512 calls: call " + call, inn.pass(60), call % 2 == 0 ? FROM_NEW_MOON : FROM_FULL_MOON);
        }
    }

    private static void what512CallsAddUpTo() {
        FireflyInn inn = busiest();
        for (int call = 30; call <= 509; call++) {
            inn.pass(60);
        }
        int each = 240 * (FROM_NEW_MOON + FROM_FULL_MOON) / 12;
        Check.same("512 calls: the night then", inn.count(0), 480 * 60);
        Check.same("512 calls: what the last guest saw", inn.guest(11, 4), each);
        Check.same("512 calls: the mean", inn.mean(), (double) each);
    }

    private static void the512thCallStillRefuses() {
        FireflyInn inn = busiest();
        for (int call = 30; call <= 511; call++) {
            Check.same("512 calls: refused", Check.answer(() -> inn.stay(0, 0, true)), "throws.IllegalStateException");
        }
        Check.same("512 calls: the last one", Check.answer(() -> inn.leave(12)), "throws.IndexOutOfBoundsException");
    }

    private static void the512thCallStillForesees() {
        FireflyInn inn = busiest();
        for (int call = 30; call <= 512; call++) {
            switch (call % 3) {
                case 0:
                    Check.same("512 calls: foresee", inn.foresee(60, 0), FROM_NEW_MOON);
                    break;
                case 1:
                    Check.same("512 calls: advise", inn.advise(30), -1);
                    break;
                default:
                    Check.same("512 calls: harm", inn.harm(30), -1);
                    break;
            }
        }
    }
}
