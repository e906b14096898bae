/**
 * All that the face tells of an object, as one text, and at its end what layers more are answered:
 * the rules show there alone. The object has more layers then, so it is of no use behind a view.
 */
final class View {
    private final Caller x;
    private final StringBuilder text = new StringBuilder();

    private View(Caller x) {
        this.x = x;
    }

    static String of(PalletLayers x) {
        return of(new Caller.OfClass(x));
    }

    static String of(Caller x) {
        View view = new View(x);
        for (int what = 0; what <= 5; what++) {
            view.tell(Caller.Ask.COUNT, what);
        }
        long kinds = x.call(Caller.Ask.COUNT, 0);
        for (int k = 0; k < kinds; k++) {
            view.kind(k);
        }
        long pallets = x.call(Caller.Ask.COUNT, 1);
        for (int p = 0; p < pallets; p++) {
            view.pallet(p);
        }
        long aboard = x.call(Caller.Ask.COUNT, 2);
        for (int i = 0; i < aboard; i++) {
            view.tell(Caller.Ask.ORDER, i);
        }
        for (int p = 0; p < pallets; p++) {
            for (int k = 0; k < kinds; k++) {
                view.tell(Caller.Ask.PUT, p, k, 1);
            }
        }
        return view.text.toString();
    }

    private String tell(Caller.Ask method, int... a) {
        String outcome = x.outcome(method, a);
        text.append(method);
        for (int n : a) {
            text.append(' ').append(n);
        }
        text.append(": ").append(outcome).append('\n');
        return outcome;
    }

    private static boolean isAnswer(String outcome) {
        return !outcome.endsWith("Exception");
    }

    private void kind(int k) {
        tell(Caller.Ask.EXACT, k);
        tell(Caller.Ask.BOUND, k);
        for (int i = 0; isAnswer(tell(Caller.Ask.PATTERN, k, i, 0)); i++) {
            tell(Caller.Ask.PATTERN, k, i, 1);
            tell(Caller.Ask.PATTERN, k, i, 2);
        }
    }

    private void pallet(int p) {
        for (int what = 0; what <= 5; what++) {
            tell(Caller.Ask.TOLD, p, what);
        }
        for (int layer = 0; isAnswer(tell(Caller.Ask.LAYER, p, layer, 0)); layer++) {
            for (int what = 1; what <= 3; what++) {
                tell(Caller.Ask.LAYER, p, layer, what);
            }
            for (int i = 0; isAnswer(tell(Caller.Ask.SUPPORT, p, layer, i)); i++) {
                continue;
            }
        }
    }
}
