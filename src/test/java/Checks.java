import java.util.function.Consumer;
import java.util.function.Supplier;
import java.util.function.ToLongFunction;

/** What the tests share: answers and refusals are compared, wrong ones printed and counted. */
final class Checks {
    interface Call {
        void run();
    }

    private static int made = 0;
    private static int wrong = 0;

    private Checks() {
    }

    static void due(String what, long got, long want) {
        made++;
        if (got != want) {
            tell(what + " answered " + got + ", due is " + want);
        }
    }

    static void same(String what, String got, String want) {
        made++;
        if (!got.equals(want)) {
            tell(what + " answered " + got + ", due is " + want);
        }
    }

    static void holds(String what, boolean got) {
        made++;
        if (!got) {
            tell(what + " does not hold");
        }
    }

    static void refused(String what, Class<? extends RuntimeException> want, Call call) {
        made++;
        RuntimeException got = thrownBy(call);
        if (got == null || got.getClass() != want) {
            tell(what + " threw " + got + ", due is " + want.getName());
        } else if (isTheMachines(got)) {
            tell(what + ": the machine itself threw " + got);
        }
    }

    /** Refused on a new object of the scene, which then shows what one shows without that call. */
    static void refusedUnchanged(String what, Class<? extends RuntimeException> want, Supplier<PalletLayers> scene,
            Consumer<PalletLayers> call) {
        PalletLayers x = scene.get();
        refused(what, want, () -> call.accept(x));
        same(what + ": the view behind it", View.of(x), View.of(scene.get()));
    }

    /** Answered on a new object of the scene, and nothing has changed. */
    static void dueUnchanged(String what, long want, Supplier<PalletLayers> scene, ToLongFunction<PalletLayers> call) {
        PalletLayers x = scene.get();
        due(what, call.applyAsLong(x), want);
        same(what + ": the view behind it", View.of(x), View.of(scene.get()));
    }

    static RuntimeException thrownBy(Call call) {
        try {
            call.run();
            return null;
        } catch (RuntimeException thrown) {
            return thrown;
        }
    }

    /** The class writes its own texts; these are the ones of the machine and the library. */
    static boolean isTheMachines(RuntimeException thrown) {
        String text = thrown.getMessage();
        StackTraceElement[] trace = thrown.getStackTrace();
        boolean thrownInClass = trace.length > 0 && trace[0].getClassName().startsWith("PalletLayers");
        return !thrownInClass || text == null || text.startsWith("Index ") || text.equals("/ by zero")
                || thrown instanceof NullPointerException || thrown instanceof ClassCastException
                || thrown instanceof NegativeArraySizeException || thrown instanceof ArrayStoreException;
    }

    private static void tell(String text) {
        wrong++;
        if (wrong <= 50) {
            System.out.println(text);
        }
    }

    static void end() {
        System.out.println(made + " checks, " + wrong + " wrong");
        if (wrong != 0 || made == 0) {
            System.exit(1);
        }
    }
}
