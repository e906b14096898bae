import java.util.ArrayList;
import java.util.List;

/**
 * The search over all areas and boxes against a plain one on a board of cells, and the number of
 * an exact pattern against a search that leaves nothing out.
 */
public final class SearchModelTest {
    private static final int[] STEPS = {0, 1, 2, 3, 4, 5, 7, 10, 12, 17, 26, 36, 37, 60, 150, 700, 5000};

    private final int width;
    private final int depth;
    private final int boxWidth;
    private final int boxDepth;
    private final boolean prunes;
    private final int[][] board;
    private final List<int[]> standing = new ArrayList<>();
    List<int[]> best = null;
    int stepsLeft;
    boolean exact = true;

    SearchModelTest(int width, int depth, int boxWidth, int boxDepth, int steps, boolean prunes) {
        this.width = width;
        this.depth = depth;
        this.boxWidth = boxWidth;
        this.boxDepth = boxDepth;
        this.prunes = prunes;
        stepsLeft = steps;
        board = new int[depth][width];
        look(0, 0);
    }

    private void look(int x, int y) {
        if (y == depth) {
            if (best == null || standing.size() > best.size()) {
                best = new ArrayList<>(standing);
            }
            return;
        }
        int nextX = x + 1 == width ? 0 : x + 1;
        int nextY = x + 1 == width ? y + 1 : y;
        if (board[y][x] != 0) {
            look(nextX, nextY);
            return;
        }
        if (prunes && best != null && standing.size() + openCells() / (boxWidth * boxDepth) <= best.size()) {
            return;
        }
        for (int way = 0; way < (boxWidth == boxDepth ? 1 : 2); way++) {
            int w = way == 0 ? boxWidth : boxDepth;
            int d = way == 0 ? boxDepth : boxWidth;
            if (fits(x, y, w, d) && step()) {
                mark(x, y, w, d, 1);
                standing.add(new int[] {x, y, way});
                look(nextX, nextY);
                standing.remove(standing.size() - 1);
                mark(x, y, w, d, 0);
            }
        }
        if (step()) {
            board[y][x] = 2;
            look(nextX, nextY);
            board[y][x] = 0;
        }
    }

    private boolean step() {
        if (stepsLeft == 0) {
            exact = false;
            return false;
        }
        stepsLeft--;
        return true;
    }

    private int openCells() {
        int open = 0;
        for (int[] row : board) {
            for (int cell : row) {
                open += cell == 0 ? 1 : 0;
            }
        }
        return open;
    }

    private boolean fits(int x, int y, int w, int d) {
        if (x + w > width || y + d > depth) {
            return false;
        }
        for (int j = y; j < y + d; j++) {
            for (int i = x; i < x + w; i++) {
                if (board[j][i] == 1) {
                    return false;
                }
            }
        }
        return true;
    }

    private void mark(int x, int y, int w, int d, int with) {
        for (int j = y; j < y + d; j++) {
            for (int i = x; i < x + w; i++) {
                board[j][i] = with;
            }
        }
    }

    private static void compare(int[] c, int steps) {
        SearchModelTest model = new SearchModelTest(c[0], c[1], c[2], c[3], steps, true);
        int want = model.best == null ? 0 : model.best.size();
        String name = c[2] + " x " + c[3] + " on " + c[0] + " x " + c[1] + " with " + steps;
        PalletLayers x = new PalletLayers(c[0], c[1]);
        x.kind(c[2], c[3], 1, 1);
        x.search(0, 5000);
        Checks.due(name + ": boxes", x.search(0, steps), want);
        Checks.due(name + ": steps", x.count(5), steps - model.stepsLeft);
        Checks.holds(name + ": exact", x.exact(0) == model.exact);
        for (int i = 0; i < want; i++) {
            for (int what = 0; what < 3; what++) {
                Checks.due(name + ": pattern " + i + " " + what, x.pattern(0, i, what), model.best.get(i)[what]);
            }
        }
        if (x.exact(0) && c[0] * c[1] <= 12) {
            SearchModelTest all = new SearchModelTest(c[0], c[1], c[2], c[3], Integer.MAX_VALUE, false);
            Checks.due(name + ": none is better", want, all.best.size());
        }
    }

    public static void main(String[] args) {
        for (int n = 0; n < 6 * 6 * 6 * 6; n++) {
            int[] c = {n % 6 + 1, n / 6 % 6 + 1, n / 36 % 6 + 1, n / 216 + 1};
            for (int steps : STEPS) {
                compare(c, steps);
            }
        }
        Checks.end();
    }
}
