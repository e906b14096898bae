/** The class and its plain model, asked alike. */
interface Caller {
    enum Ask {
        KIND(4), SEARCH(2), PATTERN(3), EXACT(1), BOUND(1), RULES(3), PALLET(0), PUT(3), FILL(3), TAKE(1),
        SUPPORT(3), TOLD(2), LAYER(3), TRUCK(2), UNLOAD(1), ORDER(1), COUNT(1);

        final int arguments;

        Ask(int arguments) {
            this.arguments = arguments;
        }
    }

    /** A boolean counts 1 or 0, no answer 0. */
    long call(Ask method, int... a);

    /** The answer, or the name of what was thrown. */
    default String outcome(Ask method, int... a) {
        try {
            return Long.toString(call(method, a));
        } catch (RuntimeException thrown) {
            return Checks.isTheMachines(thrown) ? "the machine's " + thrown : thrown.getClass().getSimpleName();
        }
    }

    /** The class itself; nothing is promised of an object after its 512th call. */
    final class OfClass implements Caller {
        private static final int MOST_CALLS = 512;

        private final PalletLayers x;
        private int calls = 0;

        OfClass(PalletLayers x) {
            this.x = x;
        }

        @Override
        public long call(Ask method, int... a) {
            calls++;
            if (calls > MOST_CALLS) {
                throw new AssertionError("the test asks more of one object than the document promises");
            }
            switch (method) {
                case KIND: return x.kind(a[0], a[1], a[2], a[3]);
                case SEARCH: return x.search(a[0], a[1]);
                case PATTERN: return x.pattern(a[0], a[1], a[2]);
                case EXACT: return x.exact(a[0]) ? 1 : 0;
                case BOUND: return x.bound(a[0]);
                case RULES: x.rules(a[0], a[1], a[2]); return 0;
                case PALLET: return x.pallet();
                case PUT: return x.put(a[0], a[1], a[2]);
                case FILL: return x.fill(a[0], a[1], a[2]);
                case TAKE: return x.take(a[0]);
                case SUPPORT: return x.support(a[0], a[1], a[2]);
                case TOLD: return x.told(a[0], a[1]);
                case LAYER: return x.layer(a[0], a[1], a[2]);
                case TRUCK: return x.truck(a[0], a[1]);
                case UNLOAD: return x.unload(a[0]);
                case ORDER: return x.order(a[0]);
                default: return x.count(a[0]);
            }
        }
    }
}
