import java.util.function.Supplier;

/** Each sentence of 'Terms' that names a boundary case has a test of its own here. */
public final class TermsEdgesTest {
    private static final Class<IllegalArgumentException> ARGUMENT = IllegalArgumentException.class;
    private static final Class<UnsupportedOperationException> NO_ROOM = UnsupportedOperationException.class;
    private static final int MIN = Integer.MIN_VALUE;
    private static final int MAX = Integer.MAX_VALUE;

    public static void main(String[] args) {
        widthAndDepth();
        atMostSixKinds();
        rangesOfABox();
        leastAndGreatestBox();
        wayZeroAndWayOne();
        oneWayIfTheyDoNotDiffer();
        wayOneAlone();
        cellsByYThenX();
        withinTheArea();
        standsOnNoBox();
        eachTrialIsAStep();
        lastCell();
        noStepsLeftForATrial();
        greaterThanTheBestSoFar();
        noneAtFirst();
        nothingMoreCanCome();
        aheadOfTheFirstTrialAlone();
        restsDroppedInTheSearch();
        exact();
        exactWhereTheNumberRulesOutWithoutSteps();
        zeroAndFiveThousandSteps();
        firstSoManyBoxes();
        fullAndPartLayer();
        atMostEightPallets();
        atMostTenLayers();
        supportInTheLowestLayer();
        supportFromTheLayerBelowAlone();
        supportIsASum();
        shareReachedAndPassed();
        shareOfZero();
        shareOfHundred();
        eachOfItsBoxes();
        shareAtFirst();
        doorReachedAndPassed();
        doorAtFirst();
        loadReachedAndPassed();
        loadAtFirst();
        rangesOfTheRules();
        Checks.end();
    }

    /** An object of one kind, sought with so many steps. */
    private static PalletLayers sought(int width, int depth, int boxWidth, int boxDepth, int steps) {
        PalletLayers x = new PalletLayers(width, depth);
        x.kind(boxWidth, boxDepth, 1, 1);
        x.search(0, steps);
        return x;
    }

    private static void boxIs(String what, PalletLayers x, int i, int atX, int atY, int way) {
        Checks.due(what + ": x of box " + i, x.pattern(0, i, 0), atX);
        Checks.due(what + ": y of box " + i, x.pattern(0, i, 1), atY);
        Checks.due(what + ": way of box " + i, x.pattern(0, i, 2), way);
    }

    private static void stepsAre(String what, PalletLayers x, int boxes, int steps, boolean exact) {
        Checks.due(what + ": boxes", boxesOf(x), boxes);
        Checks.due(what + ": steps", x.count(5), steps);
        Checks.holds(what + ": exact is " + exact, x.exact(0) == exact);
    }

    /** How many boxes kind 0's pattern has. */
    private static int boxesOf(PalletLayers x) {
        int boxes = 0;
        while (boxes <= 36 && hasBox(x, boxes)) {
            boxes++;
        }
        return boxes;
    }

    private static boolean hasBox(PalletLayers x, int i) {
        return Checks.thrownBy(() -> x.pattern(0, i, 0)) == null;
    }

    // "1 .. 6 each; less counts as 1, more as 6"
    private static void widthAndDepth() {
        int[][] counted = {{MIN, 1}, {-1, 1}, {0, 1}, {1, 1}, {2, 2}, {5, 5}, {6, 6}, {7, 6}, {8, 6}, {MAX, 6}};
        for (int[] c : counted) {
            PalletLayers wide = sought(c[0], 3, 1, 1, 5000);
            Checks.due("width " + c[0], wide.bound(0), c[1] * 3);
            boxIs("width " + c[0], wide, c[1] * 3 - 1, c[1] - 1, 2, 0);
            PalletLayers deep = sought(2, c[0], 1, 1, 5000);
            Checks.due("depth " + c[0], deep.bound(0), c[1] * 2);
            boxIs("depth " + c[0], deep, c[1] * 2 - 1, 1, c[1] - 1, 0);
        }
        Checks.due("both less", sought(MIN, 0, 1, 1, 5000).bound(0), 1);
        Checks.due("both more", sought(7, MAX, 1, 1, 5000).bound(0), 36);
    }

    private static PalletLayers sixKinds() {
        PalletLayers x = new PalletLayers(3, 3);
        for (int i = 0; i < 6; i++) {
            x.kind(i % 3 + 1, 1, 1, 1);
        }
        x.search(0, 5000);
        x.pallet();
        return x;
    }

    // "KINDS of boxes 0, 1, .. (at most 6, as they come)"
    private static void atMostSixKinds() {
        PalletLayers x = new PalletLayers(3, 3);
        for (int i = 0; i < 6; i++) {
            Checks.due("the number of kind " + i, x.kind(1, 1, 1, 1), i);
            Checks.due("so many kinds", x.count(0), i + 1);
        }
        Checks.refused("a seventh", NO_ROOM, () -> x.kind(1, 1, 1, 1));
        Checks.refusedUnchanged("a seventh kind", NO_ROOM, TermsEdgesTest::sixKinds, y -> y.kind(2, 2, 2, 2));
        Checks.refusedUnchanged("a seventh that is too wide", ARGUMENT, TermsEdgesTest::sixKinds,
            y -> y.kind(7, 2, 2, 2));
        Checks.refusedUnchanged("a seventh that is too heavy", ARGUMENT, TermsEdgesTest::sixKinds,
            y -> y.kind(2, 2, 2, 101));
    }

    // "a width, a depth, a height (1 .. 6 each), a weight 0 .. 100"
    private static void rangesOfABox() {
        int[] badSides = {MIN, -1, 0, 7, MAX};
        int[] badWeights = {MIN, -1, 101, MAX};
        Supplier<PalletLayers> scene = () -> sought(3, 2, 2, 1, 5000);
        for (int bad : badSides) {
            Checks.refusedUnchanged("width " + bad, ARGUMENT, scene, x -> x.kind(bad, 1, 1, 1));
            Checks.refusedUnchanged("depth " + bad, ARGUMENT, scene, x -> x.kind(1, bad, 1, 1));
            Checks.refusedUnchanged("height " + bad, ARGUMENT, scene, x -> x.kind(1, 1, bad, 1));
            Checks.refusedUnchanged("all " + bad, ARGUMENT, scene, x -> x.kind(bad, bad, bad, bad));
        }
        for (int bad : badWeights) {
            Checks.refusedUnchanged("weight " + bad, ARGUMENT, scene, x -> x.kind(1, 1, 1, bad));
        }
        for (int good : new int[] {1, 6}) {
            Checks.due("width " + good, scene.get().kind(good, 2, 2, 2), 1);
            Checks.due("depth " + good, scene.get().kind(2, good, 2, 2), 1);
            Checks.due("height " + good, scene.get().kind(2, 2, good, 2), 1);
        }
        Checks.due("weight 0", scene.get().kind(2, 2, 2, 0), 1);
        Checks.due("weight 100", scene.get().kind(2, 2, 2, 100), 1);
    }

    // The least and the greatest numbers of a box are taken as they are.
    private static void leastAndGreatestBox() {
        PalletLayers x = new PalletLayers(6, 6);
        x.kind(1, 1, 1, 0);
        x.kind(6, 6, 6, 100);
        x.kind(1, 6, 1, 1);
        x.kind(6, 1, 1, 1);
        int[] bounds = {36, 1, 6, 6};
        for (int kind = 0; kind < 4; kind++) {
            Checks.due("boxes of kind " + kind, x.search(kind, 5000), bounds[kind]);
            Checks.due("bound of kind " + kind, x.bound(kind), bounds[kind]);
        }
        x.pallet();
        x.put(0, 0, 36);
        Checks.due("height 1", x.told(0, 0), 1);
        Checks.due("weight 0", x.told(0, 1), 0);
        x.put(0, 1, 1);
        Checks.due("height 6", x.told(0, 0), 7);
        Checks.due("weight 100", x.told(0, 1), 100);
    }

    // "WAY 0 is (width, depth), way 1 (depth, width)"; way 0 is tried first.
    private static void wayZeroAndWayOne() {
        PalletLayers upright = sought(2, 2, 1, 2, 5000);
        boxIs("1 x 2", upright, 0, 0, 0, 0);
        boxIs("1 x 2", upright, 1, 1, 0, 0);
        stepsAre("1 x 2: box, box, free, turned, free", upright, 2, 5, true);
        PalletLayers lying = sought(2, 2, 2, 1, 5000);
        boxIs("2 x 1", lying, 0, 0, 0, 0);
        boxIs("2 x 1", lying, 1, 0, 1, 0);
    }

    // "if these differ": a box of which width and depth do not differ has one way.
    private static void oneWayIfTheyDoNotDiffer() {
        stepsAre("1 x 1 on 1 x 1: box, free", sought(1, 1, 1, 1, 5000), 1, 2, true);
        stepsAre("2 x 2 on 2 x 2: box, free", sought(2, 2, 2, 2, 5000), 1, 2, true);
        stepsAre("6 x 6 on 6 x 6: box, free", sought(6, 6, 6, 6, 5000), 1, 2, true);
        boxIs("a square", sought(2, 2, 2, 2, 5000), 0, 0, 0, 0);
    }

    // A box that fits in way 1 alone: way 0 is no trial, so no step.
    private static void wayOneAlone() {
        PalletLayers wide = sought(3, 1, 1, 3, 5000);
        boxIs("1 x 3 on 3 x 1", wide, 0, 0, 0, 1);
        stepsAre("1 x 3 on 3 x 1: turned, free", wide, 1, 2, true);
        PalletLayers deep = sought(1, 6, 6, 1, 5000);
        boxIs("6 x 1 on 1 x 6", deep, 0, 0, 0, 1);
        stepsAre("6 x 1 on 1 x 6: turned, free", deep, 1, 2, true);
    }

    // "the cells of the area are looked at by y upward, in each by x upward"
    private static void cellsByYThenX() {
        PalletLayers x = sought(2, 3, 1, 1, 5000);
        for (int i = 0; i < 6; i++) {
            boxIs("1 x 1 on 2 x 3", x, i, i % 2, i / 2, 0);
        }
    }

    // "each if it is within the area": just as large as it, and larger by one.
    private static void withinTheArea() {
        stepsAre("just the area", sought(3, 2, 3, 2, 5000), 1, 2, true);
        stepsAre("wider by one", sought(3, 2, 4, 2, 5000), 0, 6, true);
        stepsAre("deeper by one, and so is way 1", sought(3, 2, 3, 3, 5000), 0, 6, true);
        stepsAre("wider by one, but not in way 1", sought(2, 3, 3, 2, 5000), 1, 2, true);
        // 2 x 2 on 3 x 3: box, the other 5 cells left free; (0, 0) left free, 8 cells: box at (1, 0),
        // 4 cells: (0, 1) left free, 3 cells; (1, 0) left free, 7 cells.
        stepsAre("no room at the far sides", sought(3, 3, 2, 2, 5000), 1, 10, true);
    }

    // "and stands on no box": the bars of 2 x 1 on 3 x 2 go round the one that stands.
    private static void standsOnNoBox() {
        PalletLayers x = sought(3, 2, 2, 1, 5000);
        boxIs("2 x 1 on 3 x 2", x, 0, 0, 0, 0);
        boxIs("2 x 1 on 3 x 2", x, 1, 2, 0, 1);
        boxIs("2 x 1 on 3 x 2", x, 2, 0, 1, 0);
        stepsAre("2 x 1 on 3 x 2", x, 3, 7, true);
    }

    // "Each of these trials that can be made is a STEP (leaving free, too)"
    private static void eachTrialIsAStep() {
        stepsAre("a box that fits nowhere: free alone", sought(1, 1, 6, 6, 5000), 0, 1, true);
        stepsAre("30 cells left free", sought(6, 5, 6, 6, 5000), 0, 30, true);
        stepsAre("36 boxes, then each cell left free", sought(6, 6, 1, 1, 5000), 36, 72, true);
    }

    // "Behind the last cell the number of boxes is looked at": not ahead of it.
    private static void lastCell() {
        stepsAre("no step for the last cell: none", sought(2, 1, 1, 1, 1), 0, 1, false);
        stepsAre("the last cell has a box", sought(2, 1, 1, 1, 2), 2, 2, false);
        stepsAre("35 of 36 boxes are none", sought(6, 6, 1, 1, 35), 0, 35, false);
        stepsAre("36 of 36 boxes", sought(6, 6, 1, 1, 36), 36, 36, false);
        stepsAre("the last cell is not left free", sought(3, 2, 4, 4, 5), 0, 5, false);
        stepsAre("the last cell is left free", sought(3, 2, 4, 4, 6), 0, 6, true);
        stepsAre("a box that reaches behind the last cell", sought(2, 2, 2, 2, 1), 1, 1, false);
    }

    // "If there are no steps left for a trial .. the search goes back": 2 x 1 on 3 x 2 takes 7.
    private static void noStepsLeftForATrial() {
        int[] boxes = {0, 0, 0, 3, 3, 3, 3, 3, 3};
        for (int steps = 0; steps < boxes.length; steps++) {
            stepsAre("2 x 1 on 3 x 2 with " + steps, sought(3, 2, 2, 1, steps), boxes[steps],
                Math.min(steps, 7), steps >= 7);
        }
    }

    // "if it is greater than that of the best pattern so far .. it is the best one":
    // 2 x 3 on 3 x 4 stands first (1 box, at step 7), then two lie (at step 9); 11 steps in all.
    private static void greaterThanTheBestSoFar() {
        int[] boxes = {0, 0, 0, 0, 0, 0, 0, 1, 1, 2, 2, 2, 2};
        for (int steps = 0; steps < boxes.length; steps++) {
            stepsAre("2 x 3 on 3 x 4 with " + steps, sought(3, 4, 2, 3, steps), boxes[steps],
                Math.min(steps, 11), steps >= 11);
        }
        boxIs("the first best", sought(3, 4, 2, 3, 8), 0, 0, 0, 0);
        boxIs("the greater one", sought(3, 4, 2, 3, 9), 0, 0, 0, 1);
        boxIs("the greater one", sought(3, 4, 2, 3, 9), 1, 0, 2, 1);
        // Later patterns with as many boxes do not come in its place.
        boxIs("1 x 2 on 2 x 2: the first of two", sought(2, 2, 1, 2, 5000), 0, 0, 0, 0);
    }

    // "(none at first)": a pattern without boxes is better than none, so it is sought to its end.
    private static void noneAtFirst() {
        stepsAre("two cells, too small", sought(2, 1, 2, 2, 5000), 0, 2, true);
        stepsAre("two cells, one step", sought(2, 1, 2, 2, 1), 0, 1, false);
        stepsAre("two cells, no step", sought(2, 1, 2, 2, 0), 0, 0, false);
    }

    // "nothing more than the best number can come": as many as the best is no more, one more is.
    private static void nothingMoreCanCome() {
        // 2 x 1 on 3 x 1: box, free (1); free: 2 cells, 1 box more, no more than 1.
        stepsAre("as many as the best", sought(3, 1, 2, 1, 5000), 1, 3, true);
        // 2 x 3 on 3 x 4: behind way 1, 6 cells: 1 + 1 is more than 1, and it is found.
        stepsAre("one more than the best", sought(3, 4, 2, 3, 9), 2, 9, false);
        // Cells that were left free do not count: behind two of them no box of 2 x 1 comes.
        stepsAre("left free", sought(3, 2, 2, 1, 5000), 3, 7, true);
    }

    // "ahead of its first trial alone": at (0, 0) the box makes the best 1, and free is tried still.
    private static void aheadOfTheFirstTrialAlone() {
        stepsAre("1 x 1: free behind the best", sought(1, 1, 1, 1, 5000), 1, 2, true);
        stepsAre("1 x 1: no step for it", sought(1, 1, 1, 1, 1), 1, 1, false);
        stepsAre("1 x 2 on 2 x 2: way 1 and free behind the best", sought(2, 2, 1, 2, 5000), 2, 5, true);
        stepsAre("1 x 2 on 2 x 2: no step for free", sought(2, 2, 1, 2, 4), 2, 4, false);
    }

    // "times a box's area, rests dropped": 3 cells are one box of 2, 5 are two.
    private static void restsDroppedInTheSearch() {
        stepsAre("2 x 1 on 3 x 2: 3 cells and 5 cells", sought(3, 2, 2, 1, 5000), 3, 7, true);
        // 2 x 2 on 3 x 2: box; (2, 0), (2, 1) left free; (0, 0) left free: 5 cells are one box, no more.
        stepsAre("2 x 2 on 3 x 2", sought(3, 2, 2, 2, 5000), 1, 4, true);
    }

    // "EXACT if all was looked at, or left out by that number alone; without steps for some trial it is not"
    private static void exact() {
        Checks.holds("all was looked at", sought(2, 1, 2, 2, 2).exact(0));
        Checks.holds("some left out by the number", sought(3, 2, 2, 1, 7).exact(0));
        Checks.holds("the best was found, but a trial lacked a step", !sought(3, 2, 2, 1, 6).exact(0));
        Checks.holds("no steps at all", !sought(1, 1, 1, 1, 0).exact(0));
        PalletLayers x = sought(3, 2, 2, 1, 7);
        x.search(0, 6);
        Checks.holds("exact before, not now", !x.exact(0));
        x.search(0, 7);
        Checks.holds("not before, now exact", x.exact(0));
    }

    // With 7 steps, the cell behind the last of them is left out by the number: no trial lacks a step.
    private static void exactWhereTheNumberRulesOutWithoutSteps() {
        stepsAre("none left, none needed", sought(3, 2, 2, 1, 7), 3, 7, true);
        stepsAre("one left", sought(3, 2, 2, 1, 8), 3, 7, true);
    }

    // "so many steps (0 .. 5000)"
    private static void zeroAndFiveThousandSteps() {
        PalletLayers x = sought(4, 4, 2, 2, 5000);
        stepsAre("5000", x, 4, 8, true);
        Checks.due("0", x.search(0, 0), 0);
        stepsAre("0", x, 0, 0, false);
        Supplier<PalletLayers> scene = () -> sought(4, 4, 2, 2, 5000);
        for (int bad : new int[] {MIN, -1, 5001, MAX}) {
            Checks.refusedUnchanged(bad + " steps", ARGUMENT, scene, y -> y.search(0, bad));
        }
    }

    /** 1 x 1 (kind 0) and 2 x 2 (kind 1) on 2 x 2, with a pallet; any support is enough. */
    private static PalletLayers cellsAndSquare() {
        PalletLayers x = new PalletLayers(2, 2);
        x.kind(1, 1, 1, 1);
        x.kind(2, 2, 2, 3);
        x.search(0, 5000);
        x.search(1, 5000);
        x.pallet();
        return x;
    }

    // "has the first so many boxes of the kind's pattern, as they came into it"
    private static void firstSoManyBoxes() {
        for (int n = 1; n <= 4; n++) {
            PalletLayers x = cellsAndSquare();
            x.rules(0, 100, 10000);
            x.put(0, 0, n);
            x.put(0, 0, 4);
            for (int i = 0; i < 4; i++) {
                Checks.due("on the first " + n + ", box " + i, x.support(0, 1, i), i < n ? 100 : 0);
            }
            Checks.due("boxes of it", x.layer(0, 0, 1), n);
        }
    }

    // "(all: a FULL layer)"
    private static void fullAndPartLayer() {
        for (int n = 1; n <= 4; n++) {
            PalletLayers x = cellsAndSquare();
            Checks.due("a layer of " + n, x.put(0, 0, n), 1);
            Checks.due(n + " of 4 boxes are full", x.layer(0, 0, 3), n == 4 ? 1 : 0);
        }
        PalletLayers single = cellsAndSquare();
        single.put(0, 1, 1);
        Checks.due("1 of 1 box is full", single.layer(0, 0, 3), 1);
        Checks.dueUnchanged("one more than all", -1, TermsEdgesTest::cellsAndSquare, x -> x.put(0, 0, 5));
    }

    private static PalletLayers eightPallets() {
        PalletLayers x = cellsAndSquare();
        for (int i = 1; i < 8; i++) {
            x.pallet();
        }
        x.put(7, 0, 3);
        x.truck(7, 9);
        return x;
    }

    // "PALLETS 0, 1, .. (at most 8)"
    private static void atMostEightPallets() {
        PalletLayers x = new PalletLayers(2, 2);
        for (int i = 0; i < 8; i++) {
            Checks.due("the number of pallet " + i, x.pallet(), i);
            Checks.due("so many pallets", x.count(1), i + 1);
        }
        Checks.refusedUnchanged("a ninth", NO_ROOM, TermsEdgesTest::eightPallets, y -> y.pallet());
        PalletLayers unloaded = eightPallets();
        unloaded.unload(9);
        Checks.refused("an unloaded pallet is there still", NO_ROOM, () -> unloaded.pallet());
    }

    /** Pallet 0 has so many layers of one box each. */
    private static PalletLayers layers(int layers) {
        PalletLayers x = cellsAndSquare();
        for (int i = 0; i < layers; i++) {
            x.put(0, 0, 1);
        }
        return x;
    }

    // "layers from the bottom up (at most 10)"
    private static void atMostTenLayers() {
        Checks.due("nine", layers(9).told(0, 2), 9);
        Checks.due("a tenth", layers(9).put(0, 0, 1), 10);
        Checks.refusedUnchanged("an eleventh", NO_ROOM, () -> layers(10), x -> x.put(0, 0, 1));
        Checks.dueUnchanged("none is filled above ten", 0, () -> layers(10), x -> x.fill(0, 0, 1));
        PalletLayers x = layers(10);
        x.take(0);
        Checks.due("one was taken, one may come", x.put(0, 0, 1), 10);
        for (int i = 0; i < 10; i++) {
            Checks.due("from the bottom up", x.layer(0, i, 2), i);
        }
    }

    // "The SUPPORT of a box is its whole area in the lowest layer"
    private static void supportInTheLowestLayer() {
        PalletLayers x = cellsAndSquare();
        x.rules(100, 100, 10000);
        Checks.due("the whole area is enough for 100", x.put(0, 1, 1), 1);
        Checks.due("100 of 100", x.support(0, 0, 0), 100);
        PalletLayers part = cellsAndSquare();
        part.rules(100, 100, 10000);
        Checks.due("a part layer too", part.put(0, 0, 3), 1);
        Checks.due("its last box", part.support(0, 0, 2), 100);
    }

    // "else the sum of its common areas with boxes of the layer below": not of one below that.
    private static void supportFromTheLayerBelowAlone() {
        PalletLayers x = cellsAndSquare();
        x.rules(0, 100, 10000);
        x.put(0, 0, 4);
        x.put(0, 0, 1);
        x.put(0, 1, 1);
        Checks.due("one of four cells", x.support(0, 2, 0), 25);
        Checks.due("the square upon the cells has its whole", withSquareOnCells(4).support(0, 1, 0), 100);
        x.put(0, 0, 4);
        Checks.due("upon the square", x.support(0, 3, 3), 100);
    }

    private static PalletLayers withSquareOnCells(int n) {
        PalletLayers x = cellsAndSquare();
        x.rules(0, 100, 10000);
        x.put(0, 0, n);
        x.put(0, 1, 1);
        return x;
    }

    // The sum over several boxes of the layer below.
    private static void supportIsASum() {
        for (int n = 1; n <= 4; n++) {
            Checks.due("on " + n + " cells", withSquareOnCells(n).support(0, 1, 0), 25 * n);
        }
    }

    /** 6 x 6: so many cells (kind 0) below, one whole box (kind 1) to be put on them. */
    private static int wholeOnCells(int cells, int share) {
        PalletLayers x = new PalletLayers(6, 6);
        x.kind(1, 1, 1, 0);
        x.kind(6, 6, 1, 0);
        x.search(0, 5000);
        x.search(1, 5000);
        x.pallet();
        x.put(0, 0, cells);
        x.rules(share, 100, 10000);
        return x.put(0, 1, 1);
    }

    // "a support of no less than the SHARE (in hundredths ..) of its area"
    private static void shareReachedAndPassed() {
        Checks.due("18 of 36 for 49", wholeOnCells(18, 49), 2);
        Checks.due("18 of 36 for 50", wholeOnCells(18, 50), 2);
        Checks.due("18 of 36 for 51", wholeOnCells(18, 51), -2);
        Checks.due("17 of 36 for 50", wholeOnCells(17, 50), -2);
        Checks.due("19 of 36 for 50", wholeOnCells(19, 50), 2);
        Checks.due("9 of 36 for 25", wholeOnCells(9, 25), 2);
        Checks.due("9 of 36 for 26", wholeOnCells(9, 26), -2);
        // 12 of 36 are 33 and a third: no less than 33, less than 34.
        Checks.due("12 of 36 for 33", wholeOnCells(12, 33), 2);
        Checks.due("12 of 36 for 34", wholeOnCells(12, 34), -2);
        // 24 of 36 are 66 and two thirds, which is not rounded up.
        Checks.due("24 of 36 for 66", wholeOnCells(24, 66), 2);
        Checks.due("24 of 36 for 67", wholeOnCells(24, 67), -2);
        // 35 of 36 are a little over 97.
        Checks.due("35 of 36 for 97", wholeOnCells(35, 97), 2);
        Checks.due("35 of 36 for 98", wholeOnCells(35, 98), -2);
        // 1 of 36 is a little under 3.
        Checks.due("1 of 36 for 2", wholeOnCells(1, 2), 2);
        Checks.due("1 of 36 for 3", wholeOnCells(1, 3), -2);
    }

    /** 2 x 2: one cell below, two cells with so much of a share to be put on it. */
    private static int twoOnOne(int share) {
        PalletLayers x = cellsAndSquare();
        x.put(0, 0, 1);
        x.rules(share, 100, 10000);
        return x.put(0, 0, 2);
    }

    // A share of 0 asks for no support at all; of 1, for some.
    private static void shareOfZero() {
        Checks.due("no support for 0", twoOnOne(0), 2);
        Checks.due("no support for 1", twoOnOne(1), -2);
        Checks.due("no support for 100", twoOnOne(100), -2);
    }

    // A share of 100 asks for all cells.
    private static void shareOfHundred() {
        Checks.due("36 of 36 for 100", wholeOnCells(36, 100), 2);
        Checks.due("35 of 36 for 100", wholeOnCells(35, 100), -2);
        Checks.due("35 of 36 for 99", wholeOnCells(35, 99), -2);
        Checks.due("36 of 36 for 0", wholeOnCells(36, 0), 2);
    }

    // "each of its boxes": the boxes that come, not those of the pattern that do not.
    private static void eachOfItsBoxes() {
        Supplier<PalletLayers> three = () -> {
            PalletLayers x = cellsAndSquare();
            x.put(0, 0, 3);
            return x;
        };
        Checks.due("three on three", three.get().put(0, 0, 3), 2);
        Checks.dueUnchanged("the last of four alone has none", -2, three, x -> x.put(0, 0, 4));
        // 3 x 1 (kind 1) on three cells of 3 x 2 (kind 0): its first box stands, its second hangs.
        PalletLayers bars = new PalletLayers(3, 2);
        bars.kind(1, 1, 1, 1);
        bars.kind(3, 1, 1, 1);
        bars.search(0, 5000);
        bars.search(1, 5000);
        bars.pallet();
        bars.put(0, 0, 3);
        Checks.due("the second hangs", bars.put(0, 1, 2), -2);
        Checks.due("the first stands", bars.put(0, 1, 1), 2);
        // 2 x 1 (kind 1) on the first of three boxes of 1 x 2 (kind 0): a half, nothing, a half.
        PalletLayers middle = new PalletLayers(3, 2);
        middle.kind(1, 2, 1, 1);
        middle.kind(2, 1, 1, 1);
        middle.search(0, 5000);
        middle.search(1, 5000);
        middle.pallet();
        middle.put(0, 0, 1);
        Checks.due("the second of three alone has none", middle.put(0, 1, 3), -2);
        middle.rules(0, 100, 10000);
        middle.put(0, 1, 3);
        int[] supports = {50, 0, 50};
        for (int i = 0; i < 3; i++) {
            Checks.due("box " + i, middle.support(0, 1, i), supports[i]);
        }
    }

    // "50 at first"
    private static void shareAtFirst() {
        int[] answers = {-2, 2, 2, 2};
        for (int n = 1; n <= 4; n++) {
            PalletLayers x = cellsAndSquare();
            x.put(0, 0, n);
            Checks.due(n + " of four cells at first", x.put(0, 1, 1), answers[n - 1]);
        }
    }

    /** A pallet of cells of 1 high; squares are 2 high and weigh 3. */
    private static Supplier<PalletLayers> ruled(int cells, int door, int load) {
        return () -> {
            PalletLayers x = cellsAndSquare();
            x.put(0, 0, cells);
            x.rules(50, door, load);
            return x;
        };
    }

    // "the pallet's height .. not above the DOOR"
    private static void doorReachedAndPassed() {
        Checks.due("door 3 is reached", ruled(4, 3, 10000).get().put(0, 1, 1), 2);
        Checks.due("door 4 is not reached", ruled(4, 4, 10000).get().put(0, 1, 1), 2);
        Checks.dueUnchanged("door 2 is passed by one", -3, ruled(4, 2, 10000), x -> x.put(0, 1, 1));
        Checks.dueUnchanged("door 1 is passed by two", -3, ruled(4, 1, 10000), x -> x.put(0, 1, 1));
        PalletLayers x = cellsAndSquare();
        x.rules(50, 1, 10000);
        Checks.due("a square is above a door of 1", x.put(0, 1, 1), -3);
        Checks.due("a cell is not", x.put(0, 0, 1), 1);
        Checks.due("two cells are", x.put(0, 0, 1), -3);
    }

    // "100 at first": ten layers of 6 are not above it.
    private static void doorAtFirst() {
        PalletLayers x = new PalletLayers(1, 1);
        x.kind(1, 1, 6, 0);
        x.search(0, 5000);
        x.pallet();
        Checks.due("ten", x.fill(0, 0, 10), 10);
        Checks.due("60 high", x.told(0, 0), 60);
    }

    // ".. and weight are not above .. the LOAD"
    private static void loadReachedAndPassed() {
        Checks.due("load 7 is reached", ruled(4, 100, 7).get().put(0, 1, 1), 2);
        Checks.due("load 8 is not reached", ruled(4, 100, 8).get().put(0, 1, 1), 2);
        Checks.dueUnchanged("load 6 is passed by one", -4, ruled(4, 100, 6), x -> x.put(0, 1, 1));
        Checks.dueUnchanged("load 0 is passed", -4, ruled(4, 100, 0), x -> x.put(0, 0, 1));
        Checks.due("load 6: two cells more", ruled(4, 100, 6).get().put(0, 0, 2), 2);
        Checks.dueUnchanged("load 6: three cells more", -4, ruled(4, 100, 6), x -> x.put(0, 0, 3));
        PalletLayers x = cellsAndSquare();
        x.kind(2, 2, 1, 0);
        x.search(2, 5000);
        x.rules(50, 100, 0);
        Checks.due("a box without weight on a load of 0", x.put(0, 2, 1), 1);
        Checks.due("a box of 1 on a load of 0", x.put(0, 0, 1), -4);
    }

    /** 6 x 6: 72 boxes of 100 in two layers. */
    private static PalletLayers heavy() {
        PalletLayers x = new PalletLayers(6, 6);
        x.kind(1, 1, 1, 100);
        x.kind(3, 3, 1, 1);
        x.search(0, 5000);
        x.search(1, 5000);
        x.pallet();
        x.fill(0, 0, 72);
        return x;
    }

    // "10000 at first"
    private static void loadAtFirst() {
        PalletLayers x = heavy();
        Checks.due("7200", x.told(0, 1), 7200);
        Checks.due("10100 is above", x.put(0, 0, 29), -4);
        Checks.due("10000 is not", x.put(0, 0, 28), 3);
        Checks.due("10000", x.told(0, 1), 10000);
        Checks.due("10001 is above", x.put(0, 1, 1), -4);
    }

    // "(in hundredths, 0 .. 100 ..)", "(1 .. 100 ..)", "(0 .. 10000 ..)"
    private static void rangesOfTheRules() {
        Supplier<PalletLayers> scene = () -> {
            PalletLayers x = cellsAndSquare();
            x.put(0, 0, 2);
            x.rules(50, 3, 5);
            return x;
        };
        for (int bad : new int[] {MIN, -1, 101, MAX}) {
            Checks.refusedUnchanged("share " + bad, ARGUMENT, scene, x -> x.rules(bad, 1, 0));
        }
        for (int bad : new int[] {MIN, -1, 0, 101, MAX}) {
            Checks.refusedUnchanged("door " + bad, ARGUMENT, scene, x -> x.rules(100, bad, 0));
        }
        for (int bad : new int[] {MIN, -1, 10001, MAX}) {
            Checks.refusedUnchanged("load " + bad, ARGUMENT, scene, x -> x.rules(100, 1, bad));
        }
        Checks.due("all the least: the door", rulesThenPut(0, 1, 0), -3);
        Checks.due("all the greatest: the support", rulesThenPut(100, 100, 10000), -2);
        Checks.due("least share, greatest door and load", rulesThenPut(0, 100, 10000), 2);
        Checks.due("least share, greatest door, least load", rulesThenPut(0, 100, 0), -4);
    }

    /** A square upon two cells, by these rules. */
    private static int rulesThenPut(int share, int door, int load) {
        PalletLayers x = cellsAndSquare();
        x.put(0, 0, 2);
        x.rules(share, door, load);
        return x.put(0, 1, 1);
    }
}
