import java.util.function.BiFunction;
import java.util.function.Function;
import java.util.function.IntBinaryOperator;
import java.util.function.Supplier;

/** What the tests share: they compare, count what is wrong, and end with exit code 1 if anything was. */
final class Check {
    static final Class<?> INDEX = IndexOutOfBoundsException.class;
    static final Class<?> ARGUMENT = IllegalArgumentException.class;
    static final Class<?> STATE = IllegalStateException.class;

    private static int wrong = 0;
    private static int done = 0;

    private Check() {
    }

    /** Runs each of these tests, also if one before it ended by an exception that was not due. */
    static void each(Runnable... tests) {
        for (Runnable test : tests) {
            try {
                test.run();
            } catch (RuntimeException e) {
                wrong++;
                System.out.println("a test was ended by " + e + ", " + callIn(e));
            }
        }
    }

    /** Where the tests stood when this was thrown. */
    private static String callIn(RuntimeException e) {
        for (StackTraceElement call : e.getStackTrace()) {
            if (call.getClassName().endsWith("Test")) {
                return call.toString();
            }
        }
        return "nowhere in a test";
    }

    static void same(String what, Object got, Object want) {
        done++;
        if (!want.equals(got)) {
            wrong++;
            System.out.println(what + ": got " + got + ", due is " + want);
        }
    }

    /** The answer, or the name of the exception behind "throws.". */
    static Object answer(Supplier<Object> call) {
        try {
            return call.get();
        } catch (RuntimeException e) {
            return "throws." + e.getClass().getSimpleName();
        }
    }

    /** The call throws just this exception and changes nothing. */
    static void refused(String what, FireflyInn inn, Class<?> exception, Supplier<Object> call) {
        told(what, inn, "throws." + exception.getSimpleName(), call);
    }

    /** The call answers this and changes nothing. */
    static void told(String what, FireflyInn inn, Object want, Supplier<Object> call) {
        long before = inn.digest();
        same(what, answer(call), want);
        same(what + " changes nothing", inn.digest(), before);
    }

    /** The call throws just this exception, and the inn is then as one that never heard of it. */
    static void refused(String what, Supplier<FireflyInn> made, Class<?> exception, Function<FireflyInn, Object> call) {
        told(what, made, "throws." + exception.getSimpleName(), call);
    }

    /** The call answers this, and the inn is then as one that never heard of it. */
    static void told(String what, Supplier<FireflyInn> made, Object want, Function<FireflyInn, Object> call) {
        FireflyInn inn = made.get();
        same(what, answer(() -> call.apply(inn)), want);
        same(what + " changes nothing", Inns.everything(inn), Inns.everything(made.get()));
    }

    /** The call is refused for each of these numbers, and for the least and the greatest that there are. */
    static void refusedFor(String what, Supplier<FireflyInn> made, Class<?> exception,
            BiFunction<FireflyInn, Integer, Object> call, int... numbers) {
        for (int n : numbers) {
            refused(what + ", " + n, made, exception, inn -> call.apply(inn, n));
        }
        refused(what + ", the least", made, exception, inn -> call.apply(inn, Integer.MIN_VALUE));
        refused(what + ", the greatest", made, exception, inn -> call.apply(inn, Integer.MAX_VALUE));
    }

    /** Whether a room or a guest of this number can be asked. */
    static boolean isThere(int number, IntBinaryOperator ask) {
        try {
            ask.applyAsInt(number, 0);
            return true;
        } catch (IndexOutOfBoundsException e) {
            return false;
        }
    }

    static void end() {
        System.out.println(done + " checks, " + wrong + " wrong");
        if (wrong != 0 || done == 0) {
            System.exit(1);
        }
    }
}
