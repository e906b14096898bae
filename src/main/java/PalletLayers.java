import java.util.NoSuchElementException;

/** Pallets in layers: patterns of boxes, layers with supports, and a truck with stops. */
public final class PalletLayers {
    private static final int LONGEST_SIDE = 6;
    private static final int MOST_CELLS = LONGEST_SIDE * LONGEST_SIDE;
    private static final int MOST_KINDS = 6;
    private static final int MOST_PALLETS = 8;
    private static final int MOST_LAYERS = 10;
    private static final int HEAVIEST_BOX = 100;
    private static final int MOST_STEPS = 5000;
    private static final int MOST_PUT = 100;
    private static final int MOST_FILLED = 600;
    private static final int HIGHEST_DOOR = 100;
    private static final int GREATEST_LOAD = 10000;
    private static final int LAST_STOP = 9;
    private static final int NO_STOP = -1;
    private static final int WHOLE = 100;

    private static final int TOO_FEW_IN_PATTERN = -1;
    private static final int LACKS_SUPPORT = -2;
    private static final int ABOVE_DOOR = -3;
    private static final int ABOVE_LOAD = -4;

    private final int areaWidth;
    private final int areaDepth;
    private final PatternSearch seeker;
    private final Kind[] kinds = new Kind[MOST_KINDS];
    private final Pallet[] pallets = new Pallet[MOST_PALLETS];
    private final int[] aboard = new int[MOST_PALLETS];
    private int kindCount = 0;
    private int palletCount = 0;
    private int aboardCount = 0;
    private int share = 50;
    private int door = HIGHEST_DOOR;
    private int load = GREATEST_LOAD;

    public PalletLayers(int width, int depth) {
        areaWidth = Math.max(1, Math.min(LONGEST_SIDE, width));
        areaDepth = Math.max(1, Math.min(LONGEST_SIDE, depth));
        seeker = new PatternSearch(areaWidth, areaDepth);
    }

    public int kind(int width, int depth, int height, int weight)
            throws IllegalArgumentException, UnsupportedOperationException {
        if (isOutside(width, 1, LONGEST_SIDE) || isOutside(depth, 1, LONGEST_SIDE)
                || isOutside(height, 1, LONGEST_SIDE) || isOutside(weight, 0, HEAVIEST_BOX)) {
            throw new IllegalArgumentException("a box's size or weight is outside its range");
        }
        if (kindCount >= kinds.length) {
            throw new UnsupportedOperationException("no room for another kind");
        }
        kinds[kindCount] = new Kind(areaWidth, width, depth, height, weight);
        kindCount++;
        return kindCount - 1;
    }

    public int search(int kind, int steps)
            throws NoSuchElementException, IllegalArgumentException, IllegalStateException {
        Kind sought = kindNumbered(kind);
        if (isOutside(steps, 0, MOST_STEPS)) {
            throw new IllegalArgumentException("steps are outside their range");
        }
        if (isOnAPallet(kind)) {
            throw new IllegalStateException("a layer of this kind is on a pallet");
        }
        seeker.seek(sought, steps);
        return sought.boxes;
    }

    public int pattern(int kind, int i, int what)
            throws NoSuchElementException, IllegalArgumentException, ArrayIndexOutOfBoundsException {
        Kind found = kindNumbered(kind);
        if (isOutside(what, 0, 2)) {
            throw new IllegalArgumentException("what is outside its range");
        }
        if (isOutside(i, 0, found.boxes - 1)) {
            // The document names this class, which is not in LANGUAGE.md's list; the machine
            // itself is not to throw, so it is thrown here.
            throw new ArrayIndexOutOfBoundsException("no such box in the pattern");
        }
        switch (what) {
            case 0:
                return found.corners[i] % areaWidth;
            case 1:
                return found.corners[i] / areaWidth;
            default:
                return found.ways[i];
        }
    }

    public boolean exact(int kind) throws NoSuchElementException {
        return kindNumbered(kind).soughtExactly;
    }

    public int bound(int kind) throws NoSuchElementException {
        return areaWidth * areaDepth / kindNumbered(kind).area;
    }

    public void rules(int share, int door, int load) throws IllegalArgumentException {
        if (isOutside(share, 0, WHOLE) || isOutside(door, 1, HIGHEST_DOOR)
                || isOutside(load, 0, GREATEST_LOAD)) {
            throw new IllegalArgumentException("a rule is outside its range");
        }
        this.share = share;
        this.door = door;
        this.load = load;
    }

    public int pallet() throws UnsupportedOperationException {
        if (palletCount >= pallets.length) {
            throw new UnsupportedOperationException("no room for another pallet");
        }
        pallets[palletCount] = new Pallet();
        palletCount++;
        return palletCount - 1;
    }

    public int put(int pallet, int kind, int n)
            throws NoSuchElementException, IllegalArgumentException, IllegalStateException,
            UnsupportedOperationException {
        Pallet under = palletNumbered(pallet);
        Kind laid = kindNumbered(kind);
        if (isOutside(n, 1, MOST_PUT)) {
            throw new IllegalArgumentException("boxes are outside their range");
        }
        refuseOnTruck(under);
        if (under.layers >= MOST_LAYERS) {
            throw new UnsupportedOperationException("no room for another layer");
        }
        int refusal = whyNot(under, laid, n);
        if (refusal < 0) {
            return refusal;
        }
        under.lay(kind, laid, n);
        return under.layers;
    }

    public int fill(int pallet, int kind, int n)
            throws NoSuchElementException, IllegalArgumentException, IllegalStateException {
        Pallet under = palletNumbered(pallet);
        Kind laid = kindNumbered(kind);
        if (isOutside(n, 1, MOST_FILLED)) {
            throw new IllegalArgumentException("boxes are outside their range");
        }
        refuseOnTruck(under);
        if (laid.boxes == 0) {
            return 0;
        }
        int came = 0;
        for (int layer = under.layers; layer < MOST_LAYERS && came < n; layer++) {
            int next = Math.min(laid.boxes, n - came);
            if (whyNot(under, laid, next) < 0) {
                break;
            }
            under.lay(kind, laid, next);
            came += next;
        }
        return came;
    }

    public int take(int pallet) throws NoSuchElementException, IllegalStateException {
        Pallet under = palletNumbered(pallet);
        refuseOnTruck(under);
        refuseEmpty(under);
        return under.liftTop();
    }

    public int support(int pallet, int layer, int i) throws NoSuchElementException {
        Pallet found = palletWithLayer(pallet, layer);
        Kind laid = kindNumbered(found.kindOf[layer]);
        if (isOutside(i, 0, found.boxesOf[layer] - 1)) {
            throw new NoSuchElementException("no such box");
        }
        return supportedCells(found, layer, laid.cellsOfBox(i)) * WHOLE / laid.area;
    }

    public int told(int pallet, int what) throws NoSuchElementException, IllegalArgumentException {
        Pallet found = palletNumbered(pallet);
        switch (what) {
            case 0:
                return found.height;
            case 1:
                return found.weight;
            case 2:
                return found.layers;
            case 3:
                return found.boxes;
            case 4:
                return found.stop;
            case 5:
                return found.kindBits();
            default:
                throw new IllegalArgumentException("what is outside its range");
        }
    }

    public int layer(int pallet, int layer, int what)
            throws NoSuchElementException, IllegalArgumentException {
        Pallet found = palletWithLayer(pallet, layer);
        switch (what) {
            case 0:
                return found.kindOf[layer];
            case 1:
                return found.boxesOf[layer];
            case 2:
                return found.bottomOf[layer];
            case 3:
                return found.boxesOf[layer] == kindNumbered(found.kindOf[layer]).boxes ? 1 : 0;
            default:
                throw new IllegalArgumentException("what is outside its range");
        }
    }

    public int truck(int pallet, int stop)
            throws NoSuchElementException, IllegalArgumentException, IllegalStateException {
        Pallet goes = palletNumbered(pallet);
        if (isOutside(stop, 0, LAST_STOP)) {
            throw new IllegalArgumentException("a stop is outside its range");
        }
        refuseOnTruck(goes);
        refuseEmpty(goes);
        // A pallet is aboard once at most, so the row is never full here; its index is tested all the same.
        if (hasLesserStopAboard(stop) || aboardCount >= aboard.length) {
            throw new IllegalStateException("a pallet for an earlier stop would be barred");
        }
        aboard[aboardCount] = pallet;
        aboardCount++;
        goes.stop = stop;
        return aboardCount;
    }

    public int unload(int stop) throws IllegalArgumentException, IllegalStateException {
        if (isOutside(stop, 0, LAST_STOP)) {
            throw new IllegalArgumentException("a stop is outside its range");
        }
        if (isBarred(stop)) {
            throw new IllegalStateException("a pallet for another stop stands behind");
        }
        int unloaded = 0;
        for (int i = aboardCount - 1; i >= 0; i--) {
            Pallet last = palletNumbered(aboard[i]);
            if (last.stop != stop) {
                break;
            }
            last.clear();
            unloaded++;
        }
        aboardCount -= unloaded;
        return unloaded;
    }

    public int order(int i) throws NoSuchElementException {
        if (isOutside(i, 0, aboardCount - 1)) {
            throw new NoSuchElementException("not so many pallets on the truck");
        }
        return aboard[aboardCount - 1 - i];
    }

    public int count(int what) {
        switch (what) {
            case 0:
                return kindCount;
            case 1:
                return palletCount;
            case 2:
                return aboardCount;
            case 3:
                return boxesOnPallets(false);
            case 4:
                return boxesOnPallets(true);
            case 5:
                return seeker.stepsMade;
            default:
                return -1;
        }
    }

    private static boolean isOutside(int number, int least, int most) {
        return number < least || number > most;
    }

    private Kind kindNumbered(int number) {
        Kind found = isOutside(number, 0, kinds.length - 1) ? null : kinds[number];
        if (found == null) {
            throw new NoSuchElementException("no such kind");
        }
        return found;
    }

    private Pallet palletNumbered(int number) {
        Pallet found = isOutside(number, 0, pallets.length - 1) ? null : pallets[number];
        if (found == null) {
            throw new NoSuchElementException("no such pallet");
        }
        return found;
    }

    private Pallet palletWithLayer(int number, int layer) {
        Pallet found = palletNumbered(number);
        if (isOutside(layer, 0, found.layers - 1)) {
            throw new NoSuchElementException("no such layer");
        }
        return found;
    }

    private static void refuseOnTruck(Pallet pallet) {
        if (pallet.stop != NO_STOP) {
            throw new IllegalStateException("the pallet is on a truck");
        }
    }

    private static void refuseEmpty(Pallet pallet) {
        if (pallet.layers == 0) {
            throw new IllegalStateException("the pallet has no layers");
        }
    }

    private boolean isOnAPallet(int kind) {
        for (Pallet each : pallets) {
            if (each != null && (each.kindBits() >> kind & 1) == 1) {
                return true;
            }
        }
        return false;
    }

    private int boxesOnPallets(boolean onTruckOnly) {
        int sum = 0;
        for (Pallet each : pallets) {
            if (each != null && (!onTruckOnly || each.stop != NO_STOP)) {
                sum += each.boxes;
            }
        }
        return sum;
    }

    /** 0 if so many boxes of the kind may be put on top, else the refusal's number. */
    private int whyNot(Pallet under, Kind laid, int n) {
        if (n > laid.boxes) {
            return TOO_FEW_IN_PATTERN;
        }
        for (int i = 0; i < n; i++) {
            int supported = supportedCells(under, under.layers, laid.cellsOfBox(i));
            if (supported * WHOLE < share * laid.area) {
                return LACKS_SUPPORT;
            }
        }
        if (under.height + laid.height > door) {
            return ABOVE_DOOR;
        }
        if (under.weight + laid.weight * n > load) {
            return ABOVE_LOAD;
        }
        return 0;
    }

    /** How many of a box's cells have a box under them, if it is in that layer (0: the floor). */
    private static int supportedCells(Pallet pallet, int layer, long cells) {
        // Boxes of one layer have no common areas, so their union counts every common area once.
        long below = layer == 0 ? cells : cells & pallet.coveredIn(layer - 1);
        return Long.bitCount(below);
    }

    private boolean hasLesserStopAboard(int stop) {
        for (int i = 0; i < aboardCount; i++) {
            if (palletNumbered(aboard[i]).stop < stop) {
                return true;
            }
        }
        return false;
    }

    private boolean isBarred(int stop) {
        boolean seen = false;
        for (int i = 0; i < aboardCount; i++) {
            if (palletNumbered(aboard[i]).stop == stop) {
                seen = true;
            } else if (seen) {
                return true;
            }
        }
        return false;
    }

    /**
     * A kind of box and its pattern. A set of cells is a long with bit y * areaWidth + x for the
     * cell (x, y): an area has at most 36.
     */
    private static final class Kind {
        final int width;
        final int depth;
        final int height;
        final int weight;
        final int area;
        final long straightShape;
        final long turnedShape;
        final int[] corners = new int[MOST_CELLS];
        final int[] ways = new int[MOST_CELLS];
        int boxes = 0;
        boolean soughtExactly = false;

        Kind(int areaWidth, int width, int depth, int height, int weight) {
            this.width = width;
            this.depth = depth;
            this.height = height;
            this.weight = weight;
            area = width * depth;
            straightShape = shape(areaWidth, width, depth);
            turnedShape = shape(areaWidth, depth, width);
        }

        /** The cells of a box whose corner is the cell 0; only of use where it fits the area. */
        private static long shape(int areaWidth, int across, int along) {
            long row = (1L << across) - 1;
            long cells = 0;
            for (int y = 0; y < along; y++) {
                cells |= row << y * areaWidth;
            }
            return cells;
        }

        int across(int way) {
            return way == 0 ? width : depth;
        }

        int along(int way) {
            return way == 0 ? depth : width;
        }

        long cellsAt(int corner, int way) {
            return (way == 0 ? straightShape : turnedShape) << corner;
        }

        long cellsOfBox(int i) {
            return isOutside(i, 0, boxes - 1) ? 0 : cellsAt(corners[i], ways[i]);
        }

        long cellsOfFirst(int n) {
            long cells = 0;
            for (int i = 0; i < n; i++) {
                cells |= cellsOfBox(i);
            }
            return cells;
        }

        void keepPattern(int[] newCorners, int[] newWays, int n) {
            boxes = Math.min(n, MOST_CELLS);
            for (int i = 0; i < boxes; i++) {
                corners[i] = newCorners[i];
                ways[i] = newWays[i];
            }
        }
    }

    /** A pallet's layers, from the bottom up, in rows that are used again. */
    private static final class Pallet {
        final int[] kindOf = new int[MOST_LAYERS];
        final int[] boxesOf = new int[MOST_LAYERS];
        final int[] bottomOf = new int[MOST_LAYERS];
        final int[] weightOf = new int[MOST_LAYERS];
        final long[] coveredOf = new long[MOST_LAYERS];
        int layers = 0;
        int height = 0;
        int weight = 0;
        int boxes = 0;
        int stop = NO_STOP;

        void lay(int kind, Kind laid, int n) {
            if (layers >= MOST_LAYERS) {
                return;
            }
            kindOf[layers] = kind;
            boxesOf[layers] = n;
            bottomOf[layers] = height;
            weightOf[layers] = laid.weight * n;
            coveredOf[layers] = laid.cellsOfFirst(n);
            height += laid.height;
            weight += laid.weight * n;
            boxes += n;
            layers++;
        }

        int liftTop() {
            if (layers == 0) {
                return 0;
            }
            layers--;
            height = bottomOf[layers];
            weight -= weightOf[layers];
            boxes -= boxesOf[layers];
            return boxesOf[layers];
        }

        void clear() {
            layers = 0;
            height = 0;
            weight = 0;
            boxes = 0;
            stop = NO_STOP;
        }

        long coveredIn(int layer) {
            return isOutside(layer, 0, layers - 1) ? 0 : coveredOf[layer];
        }

        int kindBits() {
            int bits = 0;
            for (int i = 0; i < layers; i++) {
                bits |= 1 << kindOf[i];
            }
            return bits;
        }
    }

    /** The search for a kind's pattern, with rows for the boxes that stand at the moment. */
    private static final class PatternSearch {
        private static final int NONE = -1;

        final int areaWidth;
        final int areaDepth;
        final int cellCount;
        final int[] corners = new int[MOST_CELLS];
        final int[] ways = new int[MOST_CELLS];
        int mostSteps = 0;
        int stepsMade = 0;
        int best = NONE;
        boolean lackedSteps = false;

        PatternSearch(int areaWidth, int areaDepth) {
            this.areaWidth = areaWidth;
            this.areaDepth = areaDepth;
            cellCount = areaWidth * areaDepth;
        }

        void seek(Kind kind, int steps) {
            mostSteps = steps;
            stepsMade = 0;
            best = NONE;
            lackedSteps = false;
            kind.keepPattern(corners, ways, 0);
            goOn(kind, 0, 0, 0);
            kind.soughtExactly = !lackedSteps;
        }

        /**
         * Closed cells are taken or left free. Each call closes a cell and goes on behind it, so
         * the calls that stand open at once are at most one more than there are cells.
         */
        private void goOn(Kind kind, int from, long closed, int boxes) {
            int cell = firstOpen(from, closed);
            if (cell >= cellCount) {
                keepIfBetter(kind, boxes);
                return;
            }
            if (!mayBeatBest(kind, closed, boxes)) {
                return;
            }
            tryBox(kind, cell, 0, closed, boxes);
            if (kind.width != kind.depth) {
                tryBox(kind, cell, 1, closed, boxes);
            }
            if (takeStep()) {
                goOn(kind, cell + 1, closed | 1L << cell, boxes);
            }
        }

        private void tryBox(Kind kind, int cell, int way, long closed, int boxes) {
            long cells = kind.cellsAt(cell, way);
            boolean within = cell % areaWidth + kind.across(way) <= areaWidth
                    && cell / areaWidth + kind.along(way) <= areaDepth;
            if (!within || (cells & closed) != 0 || boxes >= corners.length || !takeStep()) {
                return;
            }
            corners[boxes] = cell;
            ways[boxes] = way;
            goOn(kind, cell + 1, closed | cells, boxes + 1);
        }

        private int firstOpen(int from, long closed) {
            int cell = from;
            while (cell < cellCount && (closed >> cell & 1) == 1) {
                cell++;
            }
            return cell;
        }

        private boolean mayBeatBest(Kind kind, long closed, int boxes) {
            int open = cellCount - Long.bitCount(closed);
            return boxes + open / kind.area > best;
        }

        private boolean takeStep() {
            if (stepsMade >= mostSteps) {
                lackedSteps = true;
                return false;
            }
            stepsMade++;
            return true;
        }

        private void keepIfBetter(Kind kind, int boxes) {
            if (boxes > best) {
                best = boxes;
                kind.keepPattern(corners, ways, boxes);
            }
        }
    }
}
