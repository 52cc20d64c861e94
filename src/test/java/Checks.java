import java.util.function.Supplier;

/** What the tests share: each answer is compared with the one that is due. */
final class Checks {
    private static int wrong = 0;
    private static int looked = 0;
    private static String about = "";

    private Checks() {
    }

    /** Says which promise of the document the next checks are about. */
    static void promise(int number) {
        about("promise " + number);
    }

    static void about(String words) {
        about = words;
    }

    static void due(String call, Object got, Object want) {
        looked++;
        if (!want.equals(got)) {
            wrong++;
            System.out.println(about + ": " + call + " answered " + got + ", due is " + want);
        }
    }

    /** The call throws just this exception, and changes nothing that the checksum tells. */
    static void dueThrow(Gamefield x, String call, Class<? extends RuntimeException> want, Supplier<Object> run) {
        long before = x.checksum();
        due(call, outcome(run), want.getName());
        due("checksum() behind " + call, x.checksum(), before);
    }

    /** The answer of a call, or the name of the exception that it throws. */
    static Object outcome(Supplier<Object> run) {
        try {
            return run.get();
        } catch (RuntimeException e) {
            return e.getClass().getName();
        }
    }

    static void finish(String test) {
        System.out.println(test + ": " + looked + " answers looked at, " + wrong + " not as due");
        if (wrong != 0 || looked == 0) {
            System.exit(1);
        }
    }
}
