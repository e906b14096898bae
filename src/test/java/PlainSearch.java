import java.util.ArrayList;
import java.util.List;

/** The document's search, word by word, on a board of cells. */
final class PlainSearch {
    private static final int TAKEN = 1;
    private static final int LEFT_FREE = 2;

    private final int width;
    private final int depth;
    private final int boxWidth;
    private final int boxDepth;
    private final boolean prunes;
    private final int[][] board;
    private final List<int[]> standing = new ArrayList<>();
    private List<int[]> best = null;
    private int stepsLeft;
    final int steps;
    final boolean exact;
    private boolean lacked = false;

    /** Without pruning, nothing is left out by the best number. */
    PlainSearch(int width, int depth, int boxWidth, int boxDepth, int mostSteps, boolean prunes) {
        this.width = width;
        this.depth = depth;
        this.boxWidth = boxWidth;
        this.boxDepth = boxDepth;
        this.prunes = prunes;
        stepsLeft = mostSteps;
        board = new int[depth][width];
        look(0, 0);
        steps = mostSteps - stepsLeft;
        exact = !lacked;
    }

    /** x, y and way of each box. */
    List<int[]> pattern() {
        return best == null ? List.of() : best;
    }

    private void look(int x, int y) {
        if (y == depth) {
            if (best == null || standing.size() > best.size()) {
                best = new ArrayList<>(standing);
            }
            return;
        }
        int nextX = x + 1 == width ? 0 : x + 1;
        int nextY = x + 1 == width ? y + 1 : y;
        if (board[y][x] != 0) {
            look(nextX, nextY);
            return;
        }
        if (prunes && best != null && standing.size() + openCells() / (boxWidth * boxDepth) <= best.size()) {
            return;
        }
        for (int way = 0; way < (boxWidth == boxDepth ? 1 : 2); way++) {
            int w = way == 0 ? boxWidth : boxDepth;
            int d = way == 0 ? boxDepth : boxWidth;
            if (fits(x, y, w, d) && step()) {
                mark(x, y, w, d, TAKEN);
                standing.add(new int[] {x, y, way});
                look(nextX, nextY);
                standing.remove(standing.size() - 1);
                mark(x, y, w, d, 0);
            }
        }
        if (step()) {
            board[y][x] = LEFT_FREE;
            look(nextX, nextY);
            board[y][x] = 0;
        }
    }

    private boolean step() {
        if (stepsLeft == 0) {
            lacked = true;
            return false;
        }
        stepsLeft--;
        return true;
    }

    private int openCells() {
        int open = 0;
        for (int[] row : board) {
            for (int cell : row) {
                open += cell == 0 ? 1 : 0;
            }
        }
        return open;
    }

    private boolean fits(int x, int y, int w, int d) {
        if (x + w > width || y + d > depth) {
            return false;
        }
        for (int j = y; j < y + d; j++) {
            for (int i = x; i < x + w; i++) {
                if (board[j][i] == TAKEN) {
                    return false;
                }
            }
        }
        return true;
    }

    private void mark(int x, int y, int w, int d, int with) {
        for (int j = y; j < y + d; j++) {
            for (int i = x; i < x + w; i++) {
                board[j][i] = with;
            }
        }
    }
}
