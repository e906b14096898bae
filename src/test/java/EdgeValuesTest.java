import java.util.Arrays;

/**
 * In several scenes, every method with all edge values of its arguments, the largest and the
 * smallest int among them: the answer is the plain model's, a refused call has changed nothing,
 * and an answered one what it changed in the model.
 */
public final class EdgeValuesTest {
    private static final int MIN = Integer.MIN_VALUE;
    private static final int MAX = Integer.MAX_VALUE;
    private static final int[] SIDE = {MIN, 0, 1, 2, 6, 7, MAX};
    private static final int[] WEIGHT = {MIN, -1, 0, 1, 100, 101, MAX};
    private static final int[] KIND = {MIN, -1, 0, 1, 2, 3, 4, 5, 6, MAX};
    private static final int[] STEPS = {MIN, -1, 0, 1, 2, 3, 4, 5, 7, 4999, 5000, 5001, MAX};
    private static final int[] BOX = {MIN, -1, 0, 1, 2, 3, 4, 5, 8, 9, 35, 36, MAX};
    private static final int[] WHAT = {MIN, -1, 0, 1, 2, 3, 4, 5, 6, MAX};
    private static final int[] SHARE = {MIN, -1, 0, 1, 33, 34, 50, 51, 100, 101, MAX};
    private static final int[] DOOR = {MIN, -1, 0, 1, 2, 5, 6, 100, 101, MAX};
    private static final int[] LOAD = {MIN, -1, 0, 1, 27, 28, 10000, 10001, MAX};
    private static final int[] PALLET = {MIN, -1, 0, 1, 2, 3, 4, 6, 7, 8, MAX};
    private static final int[] PUT = {MIN, -1, 0, 1, 2, 3, 4, 5, 9, 10, 99, 100, 101, MAX};
    private static final int[] FILL = {MIN, -1, 0, 1, 2, 3, 4, 5, 7, 8, 9, 10, 27, 28, 599, 600, 601, MAX};
    private static final int[] LAYER = {MIN, -1, 0, 1, 2, 8, 9, 10, MAX};
    private static final int[] STOP = {MIN, -1, 0, 1, 2, 3, 5, 6, 9, 10, MAX};
    private static final int[] ORDER = {MIN, -1, 0, 1, 2, 3, 7, 8, MAX};
    private static final int SCENES = 5;

    private static int[][] values(Caller.Ask method) {
        switch (method) {
            case KIND: return new int[][] {SIDE, SIDE, SIDE, WEIGHT};
            case SEARCH: return new int[][] {KIND, STEPS};
            case PATTERN: return new int[][] {KIND, BOX, WHAT};
            case EXACT: case BOUND: return new int[][] {KIND};
            case RULES: return new int[][] {SHARE, DOOR, LOAD};
            case PUT: return new int[][] {PALLET, KIND, PUT};
            case FILL: return new int[][] {PALLET, KIND, FILL};
            case TAKE: return new int[][] {PALLET};
            case SUPPORT: return new int[][] {PALLET, LAYER, BOX};
            case TOLD: return new int[][] {PALLET, WHAT};
            case LAYER: return new int[][] {PALLET, LAYER, WHAT};
            case TRUCK: return new int[][] {PALLET, STOP};
            case UNLOAD: return new int[][] {STOP};
            case ORDER: return new int[][] {ORDER};
            case COUNT: return new int[][] {WHAT};
            default: return new int[0][];
        }
    }

    /** The scenes are 3 wide and 3 deep, so that a view stays far under 512 calls. */
    private static void lay(Caller x, int scene) {
        switch (scene) {
            case 0:
                return;
            case 1:
                kindsAndPallets(x, 2, 2);
                return;
            case 2:
                yard(x);
                return;
            case 3:
                full(x);
                return;
            default:
                laden(x);
        }
    }

    private static void kindsAndPallets(Caller x, int kinds, int pallets) {
        int[][] boxes = {{2, 1, 2, 7}, {1, 3, 1, 1}, {3, 3, 6, 100}, {4, 1, 1, 0}, {2, 2, 1, 0}, {1, 1, 3, 3}};
        for (int i = 0; i < kinds; i++) {
            x.call(Caller.Ask.KIND, boxes[i]);
        }
        for (int i = 0; i < pallets; i++) {
            x.call(Caller.Ask.PALLET);
        }
    }

    /** Kinds sought to the end, with too few steps, and not at all; the truck has three of two stops. */
    private static void yard(Caller x) {
        kindsAndPallets(x, 4, 6);
        x.call(Caller.Ask.SEARCH, 1, 5000);
        x.call(Caller.Ask.SEARCH, 3, 3);
        x.call(Caller.Ask.SEARCH, 0, 6);
        x.call(Caller.Ask.FILL, 0, 1, 30);
        x.call(Caller.Ask.PUT, 1, 0, 3);
        x.call(Caller.Ask.PUT, 1, 1, 1);
        x.call(Caller.Ask.PUT, 2, 0, 4);
        x.call(Caller.Ask.PUT, 3, 0, 2);
        x.call(Caller.Ask.PUT, 4, 0, 4);
        x.call(Caller.Ask.TRUCK, 2, 5);
        x.call(Caller.Ask.TRUCK, 3, 5);
        x.call(Caller.Ask.TRUCK, 4, 2);
        x.call(Caller.Ask.RULES, 33, 5, 28);
    }

    /** No room for a kind or a pallet; all that is laden is aboard, one pallet of it with ten layers. */
    private static void full(Caller x) {
        kindsAndPallets(x, 6, 8);
        x.call(Caller.Ask.SEARCH, 2, 5000);
        x.call(Caller.Ask.SEARCH, 4, 5000);
        x.call(Caller.Ask.SEARCH, 5, 8);
        x.call(Caller.Ask.SEARCH, 0, 5000);
        for (int i = 0; i < 8; i++) {
            x.call(Caller.Ask.PUT, i, i % 2 == 0 ? 0 : 4, 1);
        }
        x.call(Caller.Ask.FILL, 7, 4, 9);
        for (int i = 7; i >= 2; i--) {
            x.call(Caller.Ask.TRUCK, i, i);
        }
        x.call(Caller.Ask.RULES, 100, 100, 10000);
    }

    /** Part layers upon part layers, some of them hanging, none aboard, with the rules as at first. */
    private static void laden(Caller x) {
        kindsAndPallets(x, 5, 3);
        for (int k = 0; k < 5; k++) {
            x.call(Caller.Ask.SEARCH, k, 5000);
        }
        x.call(Caller.Ask.RULES, 0, 100, 10000);
        x.call(Caller.Ask.PUT, 0, 0, 1);
        x.call(Caller.Ask.PUT, 0, 1, 3);
        x.call(Caller.Ask.PUT, 0, 2, 1);
        x.call(Caller.Ask.PUT, 1, 1, 1);
        x.call(Caller.Ask.PUT, 1, 2, 1);
        x.call(Caller.Ask.RULES, 50, 100, 10000);
    }

    private static Caller classIn(int scene) {
        Caller x = new Caller.OfClass(new PalletLayers(3, 3));
        lay(x, scene);
        return x;
    }

    private static Caller modelIn(int scene) {
        Caller model = new PlainPallets(3, 3);
        lay(model, scene);
        return model;
    }

    private static void ask(int scene, String before, Caller.Ask method, int[] a) {
        Caller x = classIn(scene);
        Caller model = modelIn(scene);
        String name = "scene " + scene + ": " + method + " " + Arrays.toString(a);
        String want = model.outcome(method, a);
        Checks.same(name, x.outcome(method, a), want);
        boolean refused = want.endsWith("Exception");
        Checks.same(name + ": the view behind it", View.of(x), refused ? before : View.of(model));
    }

    private static void askAll(int scene, String before, Caller.Ask method, int[] a, int from) {
        int[][] values = values(method);
        if (from == values.length) {
            ask(scene, before, method, a);
            return;
        }
        for (int value : values[from]) {
            a[from] = value;
            askAll(scene, before, method, a, from + 1);
        }
    }

    public static void main(String[] args) {
        for (int scene = 0; scene < SCENES; scene++) {
            String before = View.of(classIn(scene));
            Checks.same("scene " + scene + ": the view", before, View.of(modelIn(scene)));
            for (Caller.Ask method : Caller.Ask.values()) {
                askAll(scene, before, method, new int[method.arguments], 0);
            }
        }
        Checks.end();
    }
}
