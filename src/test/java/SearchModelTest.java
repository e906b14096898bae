import java.util.List;

/**
 * The search over all areas and boxes against a plain one on a board of cells, and the number of
 * an exact pattern against a search that leaves nothing out.
 */
public final class SearchModelTest {
    private static final int[] STEPS = {0, 1, 2, 3, 4, 5, 7, 10, 12, 17, 26, 36, 37, 60, 150, 700, 5000};

    private static void compare(int[] c, int steps) {
        PlainSearch plain = new PlainSearch(c[0], c[1], c[2], c[3], steps, true);
        List<int[]> want = plain.pattern();
        String name = c[2] + " x " + c[3] + " on " + c[0] + " x " + c[1] + " with " + steps;
        PalletLayers x = new PalletLayers(c[0], c[1]);
        x.kind(c[2], c[3], 1, 1);
        x.search(0, 5000);
        Checks.due(name + ": boxes", x.search(0, steps), want.size());
        Checks.due(name + ": steps", x.count(5), plain.steps);
        Checks.holds(name + ": exact", x.exact(0) == plain.exact);
        for (int i = 0; i < want.size(); i++) {
            for (int what = 0; what < 3; what++) {
                Checks.due(name + ": pattern " + i + " " + what, x.pattern(0, i, what), want.get(i)[what]);
            }
        }
        if (x.exact(0) && c[0] * c[1] <= 12) {
            PlainSearch all = new PlainSearch(c[0], c[1], c[2], c[3], Integer.MAX_VALUE, false);
            Checks.due(name + ": none is better", want.size(), all.pattern().size());
        }
    }

    /** One step less than a search takes is too few, and it does not go on with more. */
    private static void lastStep(int[] c) {
        PalletLayers x = new PalletLayers(c[0], c[1]);
        x.kind(c[2], c[3], 1, 1);
        x.search(0, 5000);
        int all = x.count(5);
        if (all > 0 && all < 5000) {
            compare(c, all - 1);
            compare(c, all);
            compare(c, all + 1);
            x.search(0, all);
            Checks.holds("exact with all " + all + " steps", x.exact(0));
            x.search(0, all - 1);
            Checks.holds("not exact with one less than " + all, !x.exact(0));
        }
    }

    public static void main(String[] args) {
        for (int n = 0; n < 6 * 6 * 6 * 6; n++) {
            int[] c = {n % 6 + 1, n / 6 % 6 + 1, n / 36 % 6 + 1, n / 216 + 1};
            for (int steps : STEPS) {
                compare(c, steps);
            }
            lastStep(c);
        }
        Checks.end();
    }
}
