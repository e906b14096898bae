/** What the tests share: answers and refusals are compared, wrong ones printed and counted. */
final class Checks {
    interface Call {
        void run();
    }

    private static int made = 0;
    private static int wrong = 0;

    private Checks() {
    }

    static void due(String what, long got, long want) {
        made++;
        if (got != want) {
            tell(what + " answered " + got + ", due is " + want);
        }
    }

    static void holds(String what, boolean got) {
        made++;
        if (!got) {
            tell(what + " does not hold");
        }
    }

    static void refused(String what, Class<? extends RuntimeException> want, Call call) {
        made++;
        RuntimeException got = thrownBy(call);
        if (got == null || got.getClass() != want) {
            tell(what + " threw " + got + ", due is " + want.getName());
        } else if (isTheMachines(got)) {
            tell(what + ": the machine itself threw " + got);
        }
    }

    static RuntimeException thrownBy(Call call) {
        try {
            call.run();
            return null;
        } catch (RuntimeException thrown) {
            return thrown;
        }
    }

    /** The class writes its own texts; these are the ones of the machine and the library. */
    static boolean isTheMachines(RuntimeException thrown) {
        String text = thrown.getMessage();
        StackTraceElement[] trace = thrown.getStackTrace();
        boolean thrownInClass = trace.length > 0 && trace[0].getClassName().startsWith("PalletLayers");
        return !thrownInClass || text == null || text.startsWith("Index ") || text.equals("/ by zero")
                || thrown instanceof NullPointerException || thrown instanceof ClassCastException
                || thrown instanceof NegativeArraySizeException || thrown instanceof ArrayStoreException;
    }

    private static void tell(String text) {
        wrong++;
        if (wrong <= 50) {
            System.out.println(text);
        }
    }

    static void end() {
        System.out.println(made + " checks, " + wrong + " wrong");
        if (wrong != 0 || made == 0) {
            System.exit(1);
        }
    }
}
