import java.util.Random;

/**
 * Long runs of calls, right and wrong ones, against the plain model; the runs come from fixed
 * seeds, so they are always the same.
 */
public final class RandomRunsTest {
    private static final int RUNS = 1800;
    private static final int CALLS = 512;
    private static final int[] EDGES = {Integer.MIN_VALUE, Integer.MIN_VALUE + 1, Integer.MAX_VALUE - 1,
        Integer.MAX_VALUE};

    /** The greatest right value of each argument; one is drawn from a little below 0 to above it. */
    private static int[] most(Caller.Ask method) {
        switch (method) {
            case KIND: return new int[] {6, 6, 6, 100};
            case SEARCH: return new int[] {5, 5000};
            case PATTERN: return new int[] {5, 9, 2};
            case EXACT: case BOUND: return new int[] {5};
            case RULES: return new int[] {100, 100, 10000};
            case PUT: return new int[] {7, 5, 9};
            case FILL: return new int[] {7, 5, 60};
            case TAKE: return new int[] {7};
            case SUPPORT: return new int[] {7, 9, 12};
            case TOLD: return new int[] {7, 5};
            case LAYER: return new int[] {7, 9, 3};
            case TRUCK: return new int[] {7, 9};
            case UNLOAD: return new int[] {9};
            case ORDER: return new int[] {8};
            case COUNT: return new int[] {5};
            default: return new int[0];
        }
    }

    /** How often each method is drawn: put and fill often, so that the stacks grow. */
    private static int weight(Caller.Ask method) {
        switch (method) {
            case PUT: return 5;
            case SUPPORT: return 3;
            case EXACT: case BOUND: case RULES: case TAKE: case UNLOAD: case ORDER: return 1;
            default: return 2;
        }
    }

    private static Caller.Ask draw(Random random) {
        int all = 0;
        for (Caller.Ask method : Caller.Ask.values()) {
            all += weight(method);
        }
        int drawn = random.nextInt(all);
        for (Caller.Ask method : Caller.Ask.values()) {
            drawn -= weight(method);
            if (drawn < 0) {
                return method;
            }
        }
        throw new AssertionError("weights");
    }

    private static int[] arguments(Random random, Caller.Ask method) {
        int[] most = most(method);
        int[] a = new int[most.length];
        for (int i = 0; i < most.length; i++) {
            int drawn = random.nextInt(60);
            a[i] = drawn == 0 ? -1 - random.nextInt(3) : drawn == 1 ? most[i] + random.nextInt(9)
                : drawn == 2 ? EDGES[random.nextInt(EDGES.length)] : random.nextInt(most[i] + 1);
        }
        // Small numbers meet what there is more often; few steps show where a search stops.
        if ((method == Caller.Ask.PUT || method == Caller.Ask.FILL) && a[0] > 3 && a[0] <= 7) {
            a[0] -= 4;
        }
        if (method == Caller.Ask.SEARCH && a[1] % 2 == 1 && a[1] < 5000) {
            a[1] %= 60;
        }
        return a;
    }

    public static void main(String[] args) {
        int[] answered = new int[Caller.Ask.values().length];
        for (int run = 0; run < RUNS; run++) {
            Random random = new Random(run);
            int width = random.nextInt(9) - 1;
            int depth = random.nextInt(9) - 1;
            Caller x = new Caller.OfClass(new PalletLayers(width, depth));
            Caller model = new PlainPallets(width, depth);
            for (int i = 0; i < CALLS; i++) {
                Caller.Ask method = draw(random);
                int[] a = arguments(random, method);
                String got = x.outcome(method, a);
                String want = model.outcome(method, a);
                Checks.same("seed " + run + " call " + i + ": " + method + " " + java.util.Arrays.toString(a), got, want);
                answered[method.ordinal()] += got.matches("[1-9][0-9]*") ? 1 : 0;
            }
        }
        for (Caller.Ask method : Caller.Ask.values()) {
            Checks.holds(method + " answers more than 0 now and then",
                method == Caller.Ask.RULES || answered[method.ordinal()] > 300);
        }
        Checks.end();
    }
}
