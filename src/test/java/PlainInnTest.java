import java.util.function.Supplier;

/**
 * Long runs of calls, in which the program has to answer as the plain inn does, and to be in the same state. None has
 * more than the 512 calls for which an inn is made; the last is always the digest.
 */
public final class PlainInnTest {
    private static final int RUNS = 800;
    private static final int CALLS = 512;
    private static final int[] FAR = {-1, Integer.MIN_VALUE, Integer.MAX_VALUE, -8, 60, 61, 31, 12, 64};

    private final FireflyInn inn = new FireflyInn();
    private final PlainInn plain = new PlainInn();
    private final int run;
    private long seed;
    private int calls;

    private PlainInnTest(int run) {
        this.run = run;
        this.seed = 7919L * run + 17;
    }

    public static void main(String[] args) {
        for (int run = 1; run <= RUNS; run++) {
            PlainInnTest test = new PlainInnTest(run);
            while (test.calls < CALLS - 1) {
                test.step();
            }
            test.compareDigests();
        }
        Check.end();
    }

    /** The same numbers in each run of the tests, without a random source. */
    private int pick(int below) {
        seed = seed * 6364136223846793005L + 1442695040888963407L;
        return (int) ((seed >>> 33) % below);
    }

    /** Mostly 0 to last, now and then the number behind it or one far away. */
    private int some(int last) {
        int kind = pick(60);
        if (kind == 0) {
            return FAR[pick(FAR.length)];
        }
        return kind == 1 ? last + 1 : pick(last + 1);
    }

    private int someNights(int last) {
        return pick(4) == 0 ? some(last) : 1 + pick(run % 2 == 0 ? 3 : 9);
    }

    private void step() {
        // Some runs have few rooms and guests, some all of them, some hardly any nights.
        int kind = calls < 40 ? pick(run % 3 == 0 ? 6 : 3) : pick(run % 5 == 0 ? 17 : 19);
        switch (kind) {
            case 0: case 1: {
                int x = some(9), y = some(4), many = pick(3) == 0 ? 40 - pick(5) : some(40);
                both("swarm " + x + " " + y + " " + many, () -> inn.swarm(x, y, many), () -> plain.swarm(x, y, many));
                break;
            }
            case 2: {
                int x = some(9), room = some(5), whisper = some(9);
                boolean jar = pick(2) == 0;
                if (pick(3) == 0) {
                    both("open " + x, () -> inn.open(x), () -> plain.open(x));
                } else {
                    both("stay " + room + " " + whisper + " " + jar,
                        () -> inn.stay(room, whisper, jar), () -> plain.stay(room, whisper, jar));
                }
                break;
            }
            case 3: case 4: {
                int room = some(5);
                both("lamp " + room, () -> inn.lamp(room), () -> plain.lamp(room));
                break;
            }
            case 5: {
                int x = some(9), y = some(4);
                both("cell " + x + " " + y, () -> inn.cell(x, y), () -> plain.cell(x, y));
                break;
            }
            case 6: {
                int room = some(5), what = some(4);
                both("room " + room + " " + what, () -> inn.room(room, what), () -> plain.room(room, what));
                break;
            }
            case 7: {
                int x = some(9);
                both("isLit " + x, () -> inn.isLit(x), () -> plain.isLit(x));
                break;
            }
            case 8: {
                int guest = some(11), room = some(5);
                both("move " + guest + " " + room, () -> inn.move(guest, room), () -> plain.move(guest, room));
                break;
            }
            case 9: {
                int guest = some(11);
                if (pick(8) == 0) {
                    both("leave " + guest, () -> inn.leave(guest), () -> plain.leave(guest));
                }
                break;
            }
            case 10: {
                int guest = some(11), whisper = some(9);
                both("hush " + guest + " " + whisper,
                    () -> inn.hush(guest, whisper), () -> plain.hush(guest, whisper));
                break;
            }
            case 11: {
                int guest = some(11), what = some(5);
                both("guest " + guest + " " + what, () -> inn.guest(guest, what), () -> plain.guest(guest, what));
                break;
            }
            case 12: {
                int what = some(8);
                both("count " + what, () -> inn.count(what), () -> plain.count(what));
                break;
            }
            case 13: {
                int most = some(4);
                both("dark " + most, () -> inn.dark(most), () -> plain.dark(most));
                break;
            }
            case 14: {
                int nights = someNights(60), what = some(2);
                both("foresee " + nights + " " + what,
                    () -> inn.foresee(nights, what), () -> plain.foresee(nights, what));
                break;
            }
            case 15: {
                int nights = someNights(30);
                both("advise " + nights, () -> inn.advise(nights), () -> plain.advise(nights));
                break;
            }
            case 16: {
                int nights = someNights(30);
                both("harm " + nights, () -> inn.harm(nights), () -> plain.harm(nights));
                break;
            }
            default: {
                int nights = someNights(60);
                both("pass " + nights, () -> inn.pass(nights), () -> plain.pass(nights));
                break;
            }
        }
    }

    private void both(String name, Supplier<Object> asked, Supplier<Object> due) {
        calls++;
        Check.same(where(name), Check.answer(asked), Check.answer(due));
        int then = pick(12);
        if (then < 4 && calls < CALLS - 1) {
            compareDigests();
        } else if (then == 4 && calls < CALLS - 1) {
            calls++;
            Check.same(where("mean"), inn.mean(), plain.mean());
        }
    }

    private void compareDigests() {
        calls++;
        Check.same(where("digest"), inn.digest(), plain.digest());
    }

    private String where(String name) {
        return "run " + run + ", call " + calls + ", " + name;
    }
}
