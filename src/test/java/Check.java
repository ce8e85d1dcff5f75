import java.util.function.Supplier;

/** What the tests share: they compare, count what is wrong, and end with exit code 1 if anything was. */
final class Check {
    private static int wrong = 0;
    private static int done = 0;

    private Check() {
    }

    static void same(String what, Object got, Object want) {
        done++;
        if (!want.equals(got)) {
            wrong++;
            System.out.println(what + ": got " + got + ", due is " + want);
        }
    }

    /** The answer, or the name of the exception behind "throws.". */
    static Object answer(Supplier<Object> call) {
        try {
            return call.get();
        } catch (RuntimeException e) {
            return "throws." + e.getClass().getSimpleName();
        }
    }

    /** The call throws just this exception and changes nothing. */
    static void refused(String what, FireflyInn inn, Class<?> exception, Supplier<Object> call) {
        long before = inn.digest();
        same(what, answer(call), "throws." + exception.getSimpleName());
        same(what + " changes nothing", inn.digest(), before);
    }

    /** The call answers this and changes nothing. */
    static void told(String what, FireflyInn inn, Object want, Supplier<Object> call) {
        long before = inn.digest();
        same(what, answer(call), want);
        same(what + " changes nothing", inn.digest(), before);
    }

    static void end() {
        System.out.println(done + " checks, " + wrong + " wrong");
        if (wrong != 0 || done == 0) {
            System.exit(1);
        }
    }
}
