import java.util.NoSuchElementException;
import java.util.function.Supplier;

/**
 * Each sentence of the promises that names a boundary case has a test of its own here; where a
 * call is refused, nothing has changed behind it.
 */
public final class PromiseEdgesTest {
    private static final Class<NoSuchElementException> NONE_SUCH = NoSuchElementException.class;
    private static final Class<IllegalArgumentException> ARGUMENT = IllegalArgumentException.class;
    private static final Class<IllegalStateException> STATE = IllegalStateException.class;
    private static final Class<UnsupportedOperationException> NO_ROOM = UnsupportedOperationException.class;
    private static final Class<ArrayIndexOutOfBoundsException> INDEX = ArrayIndexOutOfBoundsException.class;
    private static final int MIN = Integer.MIN_VALUE;
    private static final int MAX = Integer.MAX_VALUE;
    /** Neither a kind nor a pallet of the yard. */
    private static final int[] NO_KINDS = {MIN, -1, 4, 5, 6, MAX};
    private static final int[] NO_PALLETS = {MIN, -1, 7, 8, MAX};
    private static final int[] NO_STOPS = {MIN, -1, 10, MAX};

    public static void main(String[] args) {
        newObject();
        newKindHasNoPattern();
        searchOfNoKind();
        searchStepsOutside();
        searchWithALayerOnAPallet();
        searchOnceNoLayerIsLeft();
        searchIsTheBestOneNow();
        patternOfNoKind();
        patternOfNoBox();
        patternOfAnotherWhat();
        exactOfNoKind();
        boundDropsRests();
        boundOfNoKind();
        rulesAreForLayersToCome();
        rulesKeepAllOrNothing();
        palletHasNothing();
        putOfNoPalletOrKind();
        putOutsideItsRange();
        putOnATruck();
        putOnTen();
        putTooManyForThePattern();
        putReasonsByPairs();
        fillOfNoPalletOrKind();
        fillOutsideItsRange();
        fillWithARest();
        fillAsFarAsLayersMayBePut();
        fillWithoutPattern();
        fillOnATruck();
        fillSixHundred();
        takeRefused();
        takeToTheLast();
        supportOfNone();
        supportDropsRests();
        toldOfNone();
        toldOfEmptyAndFull();
        layerOfNone();
        layerAfterTake();
        truckOfNone();
        truckStopOutside();
        truckNotAsItIs();
        truckLesserStop();
        truckOfAllEight();
        unloadStopOutside();
        unloadBarred();
        unloadNone();
        unloadLastFirst();
        orderOfNotSoMany();
        countOfAnotherWhat();
        countOfSteps();
        countOfBoxes();
        Checks.end();
    }

    /**
     * 4 x 4. Kind 0: 2 x 2 x 3 of 7, four boxes; kind 1: 4 x 1 x 2 of 5, four; kind 2: 5 x 1, sought,
     * none; kind 3: 3 x 3 x 1 of 100, not sought. Pallet 0: four of kind 0, two of kind 1; pallet 1:
     * aboard for stop 5; 2: ten layers; 3: ten layers, aboard for stop 5; 4: aboard for stop 2; 5: empty;
     * 6: four of kind 0. Kind 1 lies on pallet 0 alone. The rules are reached by one layer more.
     */
    private static PalletLayers yard() {
        PalletLayers x = new PalletLayers(4, 4);
        x.kind(2, 2, 3, 7);
        x.kind(4, 1, 2, 5);
        x.kind(5, 1, 1, 1);
        x.kind(3, 3, 1, 100);
        x.search(1, 5000);
        x.search(2, 5000);
        x.search(0, 5000);
        for (int i = 0; i < 7; i++) {
            x.pallet();
        }
        x.put(0, 0, 4);
        x.put(0, 1, 2);
        x.put(1, 0, 4);
        x.fill(2, 0, 10 * 4);
        x.fill(3, 0, 10 * 4);
        x.put(4, 0, 1);
        x.put(6, 0, 4);
        x.truck(1, 5);
        x.truck(3, 5);
        x.truck(4, 2);
        x.rules(50, 6, 56);
        return x;
    }

    private static final Supplier<PalletLayers> YARD = PromiseEdgesTest::yard;

    /** A 2 x 2 area: kind 0 is a cell, kind 1 the whole area, 2 high, weighing 3; pallet 0 is empty. */
    private static PalletLayers small() {
        PalletLayers x = new PalletLayers(2, 2);
        x.kind(1, 1, 1, 1);
        x.kind(2, 2, 2, 3);
        x.search(0, 5000);
        x.search(1, 5000);
        x.pallet();
        return x;
    }

    private static void toldIs(String what, PalletLayers x, int pallet, int... want) {
        for (int i = 0; i < want.length; i++) {
            Checks.due(what + ": told(" + pallet + ", " + i + ")", x.told(pallet, i), want[i]);
        }
    }

    private static void layerIs(String what, PalletLayers x, int pallet, int layer, int... want) {
        for (int i = 0; i < want.length; i++) {
            Checks.due(what + ": layer(" + pallet + ", " + layer + ", " + i + ")", x.layer(pallet, layer, i), want[i]);
        }
    }

    // Promise 1: "no kinds"; and nothing else.
    private static void newObject() {
        Supplier<PalletLayers> scene = () -> new PalletLayers(4, 4);
        for (int what = 0; what <= 5; what++) {
            Checks.due("1: count(" + what + ")", scene.get().count(what), 0);
        }
        for (int number : new int[] {MIN, -1, 0, 1, MAX}) {
            Checks.refusedUnchanged("1: exact", NONE_SUCH, scene, x -> x.exact(number));
            Checks.refusedUnchanged("1: bound", NONE_SUCH, scene, x -> x.bound(number));
            Checks.refusedUnchanged("1: search", NONE_SUCH, scene, x -> x.search(number, 1));
            Checks.refusedUnchanged("1: pattern", NONE_SUCH, scene, x -> x.pattern(number, 0, 0));
            Checks.refusedUnchanged("1: told", NONE_SUCH, scene, x -> x.told(number, 0));
            Checks.refusedUnchanged("1: layer", NONE_SUCH, scene, x -> x.layer(number, 0, 0));
            Checks.refusedUnchanged("1: support", NONE_SUCH, scene, x -> x.support(number, 0, 0));
            Checks.refusedUnchanged("1: take", NONE_SUCH, scene, x -> x.take(number));
            Checks.refusedUnchanged("1: put", NONE_SUCH, scene, x -> x.put(number, 0, 1));
            Checks.refusedUnchanged("1: fill", NONE_SUCH, scene, x -> x.fill(number, 0, 1));
            Checks.refusedUnchanged("1: truck", NONE_SUCH, scene, x -> x.truck(number, 0));
            Checks.refusedUnchanged("1: order", NONE_SUCH, scene, x -> x.order(number));
        }
        Checks.dueUnchanged("1: unload", 0, scene, x -> x.unload(0));
    }

    // Promise 2: "it has no pattern (0 boxes, not exact)"
    private static void newKindHasNoPattern() {
        Checks.refusedUnchanged("2: no box", INDEX, YARD, x -> x.pattern(3, 0, 0));
        Checks.dueUnchanged("2: not exact", 0, YARD, x -> x.exact(3) ? 1 : 0);
        Checks.dueUnchanged("2: none to put", -1, YARD, x -> x.put(5, 3, 1));
        Checks.dueUnchanged("2: none to fill", 0, YARD, x -> x.fill(5, 3, 600));
        Checks.dueUnchanged("2: its bound", 1, YARD, x -> x.bound(3));
        PalletLayers x = yard();
        Checks.due("2: another kind", x.kind(1, 1, 1, 1), 4);
        Checks.due("2: the last search was another's", x.count(5), 8);
        Checks.due("2: the others keep their patterns", x.pattern(1, 3, 1), 3);
    }

    // Promise 3: NoSuchElementException, ahead of steps outside their range.
    private static void searchOfNoKind() {
        for (int kind : NO_KINDS) {
            for (int steps : new int[] {MIN, -1, 0, 5000, 5001, MAX}) {
                Checks.refusedUnchanged("3: kind " + kind + " steps " + steps, NONE_SUCH, YARD,
                    x -> x.search(kind, steps));
            }
        }
    }

    // Promise 3: "so many steps (0 .. 5000)", ahead of a layer on a pallet.
    private static void searchStepsOutside() {
        for (int steps : new int[] {MIN, -1, 5001, MAX}) {
            for (int kind = 0; kind < 4; kind++) {
                int k = kind;
                Checks.refusedUnchanged("3: steps " + steps, ARGUMENT, YARD, x -> x.search(k, steps));
            }
        }
        Checks.due("3: 5000", yard().search(3, 5000), 1);
        Checks.due("3: 0", yard().search(3, 0), 0);
    }

    // Promise 3: "IllegalStateException: a layer of this kind is on a pallet"
    private static void searchWithALayerOnAPallet() {
        for (int steps : new int[] {0, 1, 5000}) {
            Checks.refusedUnchanged("3: on many", STATE, YARD, x -> x.search(0, steps));
            Checks.refusedUnchanged("3: in one upper layer alone", STATE, YARD, x -> x.search(1, steps));
        }
        PalletLayers aboard = small();
        aboard.put(0, 0, 1);
        aboard.truck(0, 0);
        Checks.refused("3: on the truck alone", STATE, () -> aboard.search(0, 5000));
        Checks.due("3: another kind's layer does not matter", aboard.search(1, 5000), 1);
        PalletLayers last = small();
        for (int i = 1; i < 8; i++) {
            last.pallet();
        }
        last.put(7, 1, 1);
        Checks.refused("3: on the last pallet", STATE, () -> last.search(1, 5000));
        PalletLayers lower = small();
        lower.put(0, 0, 4);
        lower.put(0, 1, 1);
        Checks.refused("3: in the lower layer alone", STATE, () -> lower.search(0, 5000));
    }

    // Promise 3: once its layers are taken, filled ones too, or unloaded, a kind may be sought.
    private static void searchOnceNoLayerIsLeft() {
        PalletLayers taken = yard();
        taken.take(0);
        Checks.due("3: taken away", taken.search(1, 0), 0);
        PalletLayers two = small();
        two.put(0, 0, 4);
        two.put(0, 0, 4);
        two.take(0);
        Checks.refused("3: one of two is left", STATE, () -> two.search(0, 5000));
        two.take(0);
        Checks.due("3: none is left", two.search(0, 5000), 4);
        PalletLayers unloaded = small();
        unloaded.put(0, 0, 4);
        unloaded.truck(0, 3);
        unloaded.unload(3);
        Checks.due("3: unloaded", unloaded.search(0, 5000), 4);
        PalletLayers refused = small();
        refused.rules(50, 1, 10000);
        Checks.due("3: a layer that was not put", refused.put(0, 1, 1), -3);
        Checks.due("3: is on no pallet", refused.search(1, 5000), 1);
    }

    // Promise 3: "and is the best one (none: no boxes)": of this search, not of an earlier one.
    private static void searchIsTheBestOneNow() {
        PalletLayers x = small();
        Checks.due("3: all four", x.search(0, 4), 4);
        Checks.due("3: three steps: none", x.search(0, 3), 0);
        Checks.refused("3: no box", INDEX, () -> x.pattern(0, 0, 0));
        Checks.due("3: none to put", x.put(0, 0, 1), -1);
        Checks.due("3: none to fill", x.fill(0, 0, 1), 0);
        Checks.due("3: the other kind has its own", x.pattern(1, 0, 0), 0);
        Checks.due("3: all again", x.search(0, 5000), 4);
        Checks.due("3: all to put", x.put(0, 0, 4), 1);
    }

    // Promise 4: no such kind, ahead of what and of the box.
    private static void patternOfNoKind() {
        for (int kind : NO_KINDS) {
            for (int what : new int[] {MIN, -1, 0, 2, 3, MAX}) {
                Checks.refusedUnchanged("4: kind " + kind, NONE_SUCH, YARD, x -> x.pattern(kind, 0, what));
                Checks.refusedUnchanged("4: kind " + kind, NONE_SUCH, YARD, x -> x.pattern(kind, -1, what));
            }
        }
    }

    // Promise 4: "ArrayIndexOutOfBoundsException ..: no such box"
    private static void patternOfNoBox() {
        for (int what = 0; what <= 2; what++) {
            int w = what;
            for (int i : new int[] {MIN, -1, 4, 5, 35, 36, MAX}) {
                Checks.refusedUnchanged("4: box " + i, INDEX, YARD, x -> x.pattern(0, i, w));
            }
            for (int i : new int[] {MIN, -1, 0, 1, MAX}) {
                Checks.refusedUnchanged("4: none found, box " + i, INDEX, YARD, x -> x.pattern(2, i, w));
                Checks.refusedUnchanged("4: not sought, box " + i, INDEX, YARD, x -> x.pattern(3, i, w));
            }
        }
        Checks.dueUnchanged("4: the first", 0, YARD, x -> x.pattern(0, 0, 0));
        Checks.dueUnchanged("4: the last", 2, YARD, x -> x.pattern(0, 3, 1));
        PalletLayers all = new PalletLayers(6, 6);
        all.kind(1, 1, 1, 1);
        all.search(0, 5000);
        Checks.due("4: the 36th", all.pattern(0, 35, 0), 5);
        Checks.refused("4: the 37th", INDEX, () -> all.pattern(0, 36, 0));
    }

    // Promise 4: another what, ahead of the box.
    private static void patternOfAnotherWhat() {
        for (int what : new int[] {MIN, -1, 3, 4, MAX}) {
            for (int i : new int[] {MIN, -1, 0, 3, 4, MAX}) {
                Checks.refusedUnchanged("4: what " + what + " of " + i, ARGUMENT, YARD, x -> x.pattern(0, i, what));
                Checks.refusedUnchanged("4: what " + what + " of none", ARGUMENT, YARD, x -> x.pattern(3, i, what));
            }
        }
    }

    // Promise 5
    private static void exactOfNoKind() {
        for (int kind : NO_KINDS) {
            Checks.refusedUnchanged("5: kind " + kind, NONE_SUCH, YARD, x -> x.exact(kind));
        }
        Checks.holds("5: sought to the end, none found", yard().exact(2));
        Checks.holds("5: sought to the end", yard().exact(1));
    }

    // Promise 6: "the area divided by the box's area (rests are dropped)"
    private static void boundDropsRests() {
        int[][] cases = {{4, 4, 3, 5, 1}, {4, 4, 4, 4, 1}, {4, 4, 3, 6, 0}, {4, 4, 3, 3, 1}, {4, 4, 5, 1, 3},
            {6, 6, 1, 1, 36}, {6, 6, 6, 6, 1}, {6, 6, 5, 1, 7}, {6, 6, 5, 5, 1}, {1, 1, 1, 1, 1}, {1, 1, 1, 2, 0},
            {1, 1, 6, 6, 0}, {5, 5, 2, 3, 4}, {6, 3, 2, 3, 3}, {6, 3, 3, 6, 1}, {5, 3, 2, 4, 1}, {5, 3, 4, 4, 0}};
        for (int[] c : cases) {
            PalletLayers x = new PalletLayers(c[0], c[1]);
            x.kind(c[2], c[3], 1, 1);
            Checks.due("6: " + c[2] + " x " + c[3] + " on " + c[0] + " x " + c[1], x.bound(0), c[4]);
            Checks.holds("6: no pattern has more", x.search(0, 5000) <= c[4]);
            Checks.due("6: the same behind a search", x.bound(0), c[4]);
        }
    }

    private static void boundOfNoKind() {
        for (int kind : NO_KINDS) {
            Checks.refusedUnchanged("6: kind " + kind, NONE_SUCH, YARD, x -> x.bound(kind));
        }
    }

    // Promise 7: "for layers to come"
    private static void rulesAreForLayersToCome() {
        PalletLayers x = small();
        x.rules(0, 100, 10000);
        x.put(0, 0, 1);
        x.put(0, 0, 4);
        x.put(0, 1, 1);
        x.rules(100, 1, 0);
        toldIs("7: what lies there stays", x, 0, 4, 8, 3, 6, -1, 3);
        Checks.due("7: hanging boxes stay", x.support(0, 1, 3), 0);
        Checks.due("7: none to come", x.put(0, 1, 1), -3);
        Checks.due("7: none to fill", x.fill(0, 1, 1), 0);
        Checks.due("7: above the door it goes onto the truck", x.truck(0, 1), 1);
        x.unload(1);
        Checks.due("7: empty, and the load is 0", x.put(0, 0, 1), -4);
        x.rules(100, 1, 1);
        Checks.due("7: the last rules hold", x.put(0, 0, 1), 1);
    }

    // Promise 7: a refused one changes none of the three, though the others were right.
    private static void rulesKeepAllOrNothing() {
        int[][] bad = {{-1, 6, 56}, {101, 6, 56}, {0, 0, 56}, {0, 101, 56}, {0, 100, -1}, {0, 100, 10001},
            {100, 1, -1}, {100, 1, 10001}, {MIN, 1, 0}, {MAX, 1, 0}, {0, MIN, 0}, {0, MAX, 0}, {0, 1, MIN}, {0, 1, MAX},
            {MIN, MIN, MIN}, {MAX, MAX, MAX}};
        for (int[] b : bad) {
            String name = "7: " + b[0] + ", " + b[1] + ", " + b[2];
            Checks.refusedUnchanged(name, ARGUMENT, YARD, x -> x.rules(b[0], b[1], b[2]));
            PalletLayers x = yard();
            Checks.refused(name, ARGUMENT, () -> x.rules(b[0], b[1], b[2]));
            Checks.due(name + ": share, door and load are reached still", x.put(6, 0, 4), 2);
            PalletLayers door = yard();
            Checks.refused(name, ARGUMENT, () -> door.rules(b[0], b[1], b[2]));
            Checks.due(name + ": the door as before", door.put(0, 1, 2), -3);
        }
        PalletLayers share = small();
        share.put(0, 0, 1);
        share.rules(25, 100, 10000);
        Checks.refused("7: a share of 0, a load of -1", ARGUMENT, () -> share.rules(26, 100, -1));
        Checks.due("7: a quarter is enough still", share.put(0, 1, 1), 2);
    }

    // Promise 8: a new pallet is empty and on no truck.
    private static void palletHasNothing() {
        PalletLayers x = yard();
        Checks.due("8: its number", x.pallet(), 7);
        toldIs("8", x, 7, 0, 0, 0, 0, -1, 0);
        Checks.refusedUnchanged("8: a ninth", NO_ROOM, () -> {
            PalletLayers full = yard();
            full.pallet();
            return full;
        }, y -> y.pallet());
    }

    // Promise 9: NoSuchElementException ahead of all the others.
    private static void putOfNoPalletOrKind() {
        for (int n : new int[] {MIN, 0, 1, 100, 101, MAX}) {
            for (int pallet : NO_PALLETS) {
                Checks.refusedUnchanged("9: pallet " + pallet, NONE_SUCH, YARD, x -> x.put(pallet, 0, n));
                Checks.refusedUnchanged("9: pallet " + pallet + ", no kind", NONE_SUCH, YARD,
                    x -> x.put(pallet, MAX, n));
            }
            for (int kind : NO_KINDS) {
                Checks.refusedUnchanged("9: kind " + kind, NONE_SUCH, YARD, x -> x.put(5, kind, n));
                Checks.refusedUnchanged("9: kind " + kind + " on a truck", NONE_SUCH, YARD, x -> x.put(1, kind, n));
                Checks.refusedUnchanged("9: kind " + kind + " on ten", NONE_SUCH, YARD, x -> x.put(2, kind, n));
            }
        }
    }

    // Promise 9: "so many boxes (1 .. 100)", ahead of the truck, of ten and of -1.
    private static void putOutsideItsRange() {
        for (int n : new int[] {MIN, -1, 0, 101, 600, MAX}) {
            for (int pallet = 0; pallet <= 6; pallet++) {
                int p = pallet;
                Checks.refusedUnchanged("9: n " + n + " on " + p, ARGUMENT, YARD, x -> x.put(p, 0, n));
                Checks.refusedUnchanged("9: n " + n + " of none", ARGUMENT, YARD, x -> x.put(p, 3, n));
            }
        }
        Checks.due("9: 1", yard().put(5, 0, 1), 1);
        Checks.dueUnchanged("9: 100 is in the range", -1, YARD, x -> x.put(5, 0, 100));
        Checks.dueUnchanged("9: so are 99", -1, YARD, x -> x.put(5, 0, 99));
    }

    // Promise 9: "IllegalStateException: the pallet is on a truck", ahead of ten and of -1 to -4.
    private static void putOnATruck() {
        for (int n : new int[] {1, 4, 5, 100}) {
            Checks.refusedUnchanged("9: aboard", STATE, YARD, x -> x.put(1, 0, n));
            Checks.refusedUnchanged("9: aboard, with ten", STATE, YARD, x -> x.put(3, 0, n));
            Checks.refusedUnchanged("9: aboard, no pattern", STATE, YARD, x -> x.put(4, 3, n));
        }
        PalletLayers x = yard();
        x.unload(2);
        Checks.due("9: unloaded, it may be used", x.put(4, 0, 4), 1);
    }

    // Promise 9: "UnsupportedOperationException: it has ten (asked before all that)"
    private static void putOnTen() {
        Checks.refusedUnchanged("9: ten, ahead of the door", NO_ROOM, YARD, x -> x.put(2, 0, 4));
        Checks.refusedUnchanged("9: ten, ahead of -1", NO_ROOM, YARD, x -> x.put(2, 0, 5));
        Checks.refusedUnchanged("9: ten, no pattern", NO_ROOM, YARD, x -> x.put(2, 3, 1));
        Checks.refusedUnchanged("9: ten, ahead of the support", NO_ROOM, () -> {
            PalletLayers x = small();
            for (int i = 0; i < 10; i++) {
                x.put(0, 0, 1);
            }
            x.rules(100, 100, 10000);
            return x;
        }, x -> x.put(0, 0, 4));
        Checks.refusedUnchanged("9: ten, ahead of the load", NO_ROOM, () -> {
            PalletLayers x = small();
            x.fill(0, 0, 40);
            x.rules(0, 100, 0);
            return x;
        }, x -> x.put(0, 0, 1));
        PalletLayers x = yard();
        x.take(2);
        Checks.due("9: nine, and the door is passed", x.put(2, 0, 4), -3);
    }

    // Promise 9: "-1 the pattern has not so many"
    private static void putTooManyForThePattern() {
        Checks.due("9: just so many", yard().put(5, 0, 4), 1);
        Checks.dueUnchanged("9: one more", -1, YARD, x -> x.put(5, 0, 5));
        Checks.dueUnchanged("9: none found", -1, YARD, x -> x.put(5, 2, 1));
        Checks.dueUnchanged("9: not sought", -1, YARD, x -> x.put(5, 3, 1));
        PalletLayers x = yard();
        x.search(3, 5000);
        Checks.due("9: one of 100 is above 56", x.put(5, 3, 1), -4);
        Checks.due("9: two are not in the pattern", x.put(5, 3, 2), -1);
        PalletLayers all = new PalletLayers(6, 6);
        all.kind(1, 1, 1, 0);
        all.search(0, 5000);
        all.pallet();
        Checks.due("9: 37 of 36", all.put(0, 0, 37), -1);
        Checks.due("9: 36 of 36", all.put(0, 0, 36), 1);
    }

    /** Pallet 0 has one cell; a layer more by these rules is answered so, and changes nothing if refused. */
    private static void onOneCell(String what, int share, int door, int load, int n, int want) {
        Supplier<PalletLayers> scene = () -> {
            PalletLayers x = small();
            x.put(0, 0, 1);
            x.rules(share, door, load);
            return x;
        };
        Checks.dueUnchanged(what, want, scene, x -> x.put(0, 0, n));
    }

    // Promise 9: "the first that holds"
    private static void putReasonsByPairs() {
        onOneCell("9: all four hold", 50, 1, 1, 5, -1);
        onOneCell("9: -1 and -2", 50, 100, 10000, 5, -1);
        onOneCell("9: -1 and -3", 0, 1, 10000, 5, -1);
        onOneCell("9: -1 and -4", 0, 100, 1, 5, -1);
        onOneCell("9: -1 alone", 0, 100, 10000, 5, -1);
        onOneCell("9: -2, -3 and -4", 50, 1, 1, 2, -2);
        onOneCell("9: -2 and -3", 50, 1, 10000, 2, -2);
        onOneCell("9: -2 and -4", 50, 100, 1, 2, -2);
        onOneCell("9: -2 alone", 50, 100, 10000, 2, -2);
        onOneCell("9: -3 and -4", 50, 1, 1, 1, -3);
        onOneCell("9: -3 alone", 50, 1, 10000, 1, -3);
        onOneCell("9: -4 alone", 50, 100, 1, 1, -4);
        PalletLayers x = small();
        x.put(0, 0, 1);
        x.rules(50, 2, 2);
        Checks.due("9: none holds", x.put(0, 0, 1), 2);
    }

    // Promise 10: NoSuchElementException ahead of all the others.
    private static void fillOfNoPalletOrKind() {
        for (int n : new int[] {MIN, 0, 1, 600, 601, MAX}) {
            for (int pallet : NO_PALLETS) {
                Checks.refusedUnchanged("10: pallet " + pallet, NONE_SUCH, YARD, x -> x.fill(pallet, 0, n));
                Checks.refusedUnchanged("10: pallet " + pallet + ", no kind", NONE_SUCH, YARD,
                    x -> x.fill(pallet, -1, n));
            }
            for (int kind : NO_KINDS) {
                Checks.refusedUnchanged("10: kind " + kind, NONE_SUCH, YARD, x -> x.fill(5, kind, n));
                Checks.refusedUnchanged("10: kind " + kind + " on a truck", NONE_SUCH, YARD, x -> x.fill(1, kind, n));
            }
        }
    }

    // Promise 10: "So many boxes (1 .. 600)", ahead of the truck and of no boxes in the pattern.
    private static void fillOutsideItsRange() {
        for (int n : new int[] {MIN, -1, 0, 601, MAX}) {
            for (int pallet = 0; pallet <= 6; pallet++) {
                int p = pallet;
                Checks.refusedUnchanged("10: n " + n + " on " + p, ARGUMENT, YARD, x -> x.fill(p, 0, n));
                Checks.refusedUnchanged("10: n " + n + " of none", ARGUMENT, YARD, x -> x.fill(p, 3, n));
            }
        }
        Checks.due("10: 1", yard().fill(5, 0, 1), 1);
    }

    // Promise 10: "in full layers, and the rest, if there is one, in a part layer"
    private static void fillWithARest() {
        for (int n = 1; n <= 40; n++) {
            PalletLayers x = small();
            Checks.due("10: all of " + n + " came", x.fill(0, 0, n), n);
            Checks.due("10: boxes of " + n, x.told(0, 3), n);
            Checks.due("10: layers of " + n, x.told(0, 2), (n + 3) / 4);
            int top = (n + 3) / 4 - 1;
            int rest = n % 4;
            layerIs("10: the top one of " + n, x, 0, top, 0, rest == 0 ? 4 : rest, top, rest == 0 ? 1 : 0);
            layerIs("10: the lowest of " + n, x, 0, 0, 0, Math.min(n, 4), 0, n >= 4 ? 1 : 0);
        }
        PalletLayers one = small();
        Checks.due("10: a pattern of one box has no rest", one.fill(0, 1, 3), 3);
        layerIs("10: full", one, 0, 2, 1, 1, 4, 1);
    }

    private static PalletLayers ruledSmall(int share, int door, int load) {
        PalletLayers x = small();
        x.rules(share, door, load);
        return x;
    }

    // Promise 10: "as far as layers may be put; how many came"
    private static void fillAsFarAsLayersMayBePut() {
        Checks.due("10: the door is reached", ruledSmall(50, 3, 10000).fill(0, 0, 12), 12);
        Checks.due("10: the door is passed by a full layer", ruledSmall(50, 2, 10000).fill(0, 0, 12), 8);
        Checks.due("10: the door is passed by the rest", ruledSmall(50, 2, 10000).fill(0, 0, 9), 8);
        Checks.due("10: the load is reached by the rest", ruledSmall(50, 100, 9).fill(0, 0, 9), 9);
        Checks.due("10: the load is passed by the rest", ruledSmall(50, 100, 9).fill(0, 0, 10), 8);
        Checks.due("10: the load is passed by a full layer: no part of it", ruledSmall(50, 100, 11).fill(0, 0, 12), 8);
        Checks.due("10: nor the rest behind it", ruledSmall(50, 100, 11).fill(0, 0, 13), 8);
        Checks.dueUnchanged("10: nothing may be put", 0, () -> ruledSmall(50, 1, 10000), x -> x.fill(0, 1, 600));
        Checks.dueUnchanged("10: not even one", 0, () -> ruledSmall(50, 100, 3), x -> x.fill(0, 0, 5));
        Supplier<PalletLayers> onPart = () -> {
            PalletLayers x = small();
            x.put(0, 0, 2);
            return x;
        };
        Checks.dueUnchanged("10: a full layer hangs, the rest is not tried", 0, onPart, x -> x.fill(0, 0, 5));
        Checks.due("10: a part layer that does not hang", onPart.get().fill(0, 0, 2), 2);
        Checks.dueUnchanged("10: a part layer that hangs", 0, onPart, x -> x.fill(0, 0, 3));
        Supplier<PalletLayers> nine = () -> {
            PalletLayers x = small();
            x.fill(0, 0, 36);
            return x;
        };
        Checks.due("10: one layer to ten", nine.get().fill(0, 0, 8), 4);
        Checks.due("10: the rest would be the eleventh", nine.get().fill(0, 0, 5), 4);
        Checks.due("10: the rest is the tenth", nine.get().fill(0, 0, 3), 3);
        Checks.dueUnchanged("10: ten already", 0, YARD, x -> x.fill(2, 0, 1));
    }

    // Promise 10: "(A kind without boxes in its pattern: 0.)"
    private static void fillWithoutPattern() {
        for (int n : new int[] {1, 600}) {
            Checks.dueUnchanged("10: not sought", 0, YARD, x -> x.fill(5, 3, n));
            Checks.dueUnchanged("10: none found", 0, YARD, x -> x.fill(5, 2, n));
            Checks.dueUnchanged("10: none on ten layers", 0, YARD, x -> x.fill(2, 3, n));
        }
    }

    // Promise 10: "IllegalStateException: the pallet is on a truck", ahead of no boxes in the pattern.
    private static void fillOnATruck() {
        for (int n : new int[] {1, 600}) {
            Checks.refusedUnchanged("10: aboard", STATE, YARD, x -> x.fill(1, 0, n));
            Checks.refusedUnchanged("10: aboard, with ten", STATE, YARD, x -> x.fill(3, 0, n));
            Checks.refusedUnchanged("10: aboard, no pattern", STATE, YARD, x -> x.fill(4, 3, n));
        }
    }

    // Promise 10: 600 is in the range, though no pallet holds so many.
    private static void fillSixHundred() {
        PalletLayers x = new PalletLayers(6, 6);
        x.kind(1, 1, 1, 1);
        x.search(0, 5000);
        x.pallet();
        Checks.due("10: ten layers of 36", x.fill(0, 0, 600), 360);
        toldIs("10: ten layers of 36", x, 0, 10, 360, 10, 360, -1, 1);
        PalletLayers load = new PalletLayers(6, 6);
        load.kind(1, 1, 6, 100);
        load.search(0, 5000);
        load.pallet();
        Checks.due("10: the load of 10000 at first: two layers", load.fill(0, 0, 600), 72);
    }

    // Promise 11: "IllegalStateException: the pallet is on a truck, or has none"
    private static void takeRefused() {
        for (int pallet : NO_PALLETS) {
            Checks.refusedUnchanged("11: pallet " + pallet, NONE_SUCH, YARD, x -> x.take(pallet));
        }
        for (int pallet : new int[] {1, 3, 4}) {
            Checks.refusedUnchanged("11: aboard", STATE, YARD, x -> x.take(pallet));
        }
        Checks.refusedUnchanged("11: it has none", STATE, YARD, x -> x.take(5));
        PalletLayers x = yard();
        x.unload(2);
        Checks.refused("11: unloaded, it has none", STATE, () -> x.take(4));
    }

    // Promise 11: "The top layer is taken away: its boxes", to the last one.
    private static void takeToTheLast() {
        PalletLayers x = yard();
        Checks.due("11: the part layer", x.take(0), 2);
        toldIs("11: behind it", x, 0, 3, 28, 1, 4, -1, 1);
        Checks.due("11: the full layer", x.take(0), 4);
        toldIs("11: behind it", x, 0, 0, 0, 0, 0, -1, 0);
        Checks.refused("11: none is left", STATE, () -> x.take(0));
        for (int i = 0; i < 10; i++) {
            Checks.due("11: of ten", x.take(2), 4);
        }
        Checks.refused("11: none of ten is left", STATE, () -> x.take(2));
        Checks.due("11: boxes on all pallets then", x.count(3), 4 + 40 + 1 + 4);
    }

    // Promise 12: "NoSuchElementException: no such pallet, layer .. or box"
    private static void supportOfNone() {
        for (int pallet : NO_PALLETS) {
            Checks.refusedUnchanged("12: pallet " + pallet, NONE_SUCH, YARD, x -> x.support(pallet, 0, 0));
        }
        for (int layer : new int[] {MIN, -1, 2, 9, 10, MAX}) {
            Checks.refusedUnchanged("12: layer " + layer, NONE_SUCH, YARD, x -> x.support(0, layer, 0));
        }
        for (int layer : new int[] {MIN, -1, 0, 1, MAX}) {
            Checks.refusedUnchanged("12: layer " + layer + " of none", NONE_SUCH, YARD, x -> x.support(5, layer, 0));
        }
        Checks.refusedUnchanged("12: an eleventh layer", NONE_SUCH, YARD, x -> x.support(2, 10, 0));
        for (int i : new int[] {MIN, -1, 4, 36, MAX}) {
            Checks.refusedUnchanged("12: box " + i + " of four", NONE_SUCH, YARD, x -> x.support(0, 0, i));
        }
        Checks.refusedUnchanged("12: in the pattern, not in the layer", NONE_SUCH, YARD, x -> x.support(0, 1, 2));
        Checks.dueUnchanged("12: the last of the layer", 100, YARD, x -> x.support(0, 1, 1));
        Checks.dueUnchanged("12: in the tenth layer", 100, YARD, x -> x.support(2, 9, 3));
        Checks.dueUnchanged("12: on the truck", 100, YARD, x -> x.support(4, 0, 0));
        PalletLayers x = yard();
        x.take(0);
        Checks.refused("12: the layer was taken", NONE_SUCH, () -> x.support(0, 1, 0));
    }

    // Promise 12: "in hundredths of its area (rests are dropped)"
    private static void supportDropsRests() {
        int[] hundredths = {2, 5, 8, 11, 13, 16, 19, 22, 25, 27, 30, 33, 36, 38, 41, 44, 47, 50, 52, 55, 58, 61, 63, 66,
            69, 72, 75, 77, 80, 83, 86, 88, 91, 94, 97, 100};
        for (int cells = 1; cells <= 36; cells++) {
            PalletLayers x = new PalletLayers(6, 6);
            x.kind(1, 1, 1, 0);
            x.kind(6, 6, 1, 0);
            x.search(0, 5000);
            x.search(1, 5000);
            x.pallet();
            x.rules(0, 100, 10000);
            x.put(0, 0, cells);
            x.put(0, 1, 1);
            Checks.due("12: " + cells + " of 36", x.support(0, 1, 0), hundredths[cells - 1]);
        }
    }

    // Promise 13: "NoSuchElementException, IllegalArgumentException"
    private static void toldOfNone() {
        for (int pallet : NO_PALLETS) {
            for (int what : new int[] {MIN, -1, 0, 5, 6, MAX}) {
                Checks.refusedUnchanged("13: pallet " + pallet, NONE_SUCH, YARD, x -> x.told(pallet, what));
            }
        }
        for (int what : new int[] {MIN, -1, 6, 7, MAX}) {
            for (int pallet = 0; pallet <= 6; pallet++) {
                int p = pallet;
                Checks.refusedUnchanged("13: what " + what, ARGUMENT, YARD, x -> x.told(p, what));
            }
        }
    }

    // Promise 13: "4 its stop (-1: it is on no truck), 5 kinds as bits"
    private static void toldOfEmptyAndFull() {
        PalletLayers x = yard();
        toldIs("13: two kinds", x, 0, 5, 38, 2, 6, -1, 3);
        toldIs("13: aboard", x, 1, 3, 28, 1, 4, 5, 1);
        toldIs("13: ten layers", x, 2, 30, 280, 10, 40, -1, 1);
        toldIs("13: ten layers aboard", x, 3, 30, 280, 10, 40, 5, 1);
        toldIs("13: empty", x, 5, 0, 0, 0, 0, -1, 0);
        x.unload(2);
        toldIs("13: unloaded", x, 4, 0, 0, 0, 0, -1, 0);
        for (int stop : new int[] {0, 9}) {
            PalletLayers one = small();
            one.put(0, 1, 1);
            Checks.due("13: on no truck yet", one.told(0, 4), -1);
            one.truck(0, stop);
            Checks.due("13: stop " + stop, one.told(0, 4), stop);
            Checks.due("13: kind 1 alone", one.told(0, 5), 2);
        }
        PalletLayers six = new PalletLayers(1, 1);
        six.pallet();
        for (int k = 0; k < 6; k++) {
            six.kind(1, 1, 1, 1);
            six.search(k, 5000);
            six.put(0, k, 1);
            Checks.due("13: kinds 0 to " + k, six.told(0, 5), (2 << k) - 1);
        }
        for (int k = 5; k >= 0; k--) {
            six.take(0);
            Checks.due("13: without kind " + k, six.told(0, 5), (1 << k) - 1);
        }
        six.put(0, 5, 1);
        Checks.due("13: kind 5 alone", six.told(0, 5), 32);
        six.put(0, 5, 1);
        Checks.due("13: twice is one bit", six.told(0, 5), 32);
        six.take(0);
        Checks.due("13: one of the two is left", six.told(0, 5), 32);
    }

    // Promise 14: "NoSuchElementException, IllegalArgumentException"
    private static void layerOfNone() {
        for (int what : new int[] {MIN, -1, 0, 3, 4, MAX}) {
            for (int pallet : NO_PALLETS) {
                Checks.refusedUnchanged("14: pallet " + pallet, NONE_SUCH, YARD, x -> x.layer(pallet, 0, what));
            }
            for (int layer : new int[] {MIN, -1, 2, 9, 10, MAX}) {
                Checks.refusedUnchanged("14: layer " + layer, NONE_SUCH, YARD, x -> x.layer(0, layer, what));
            }
            Checks.refusedUnchanged("14: of none", NONE_SUCH, YARD, x -> x.layer(5, 0, what));
            Checks.refusedUnchanged("14: an eleventh", NONE_SUCH, YARD, x -> x.layer(2, 10, what));
        }
        for (int what : new int[] {MIN, -1, 4, 5, MAX}) {
            Checks.refusedUnchanged("14: what " + what, ARGUMENT, YARD, x -> x.layer(0, 1, what));
            Checks.refusedUnchanged("14: what " + what + " aboard", ARGUMENT, YARD, x -> x.layer(4, 0, what));
        }
    }

    // Promise 14: the lowest layer, the tenth, and one that came in a taken one's place.
    private static void layerAfterTake() {
        PalletLayers x = yard();
        layerIs("14: the lowest", x, 0, 0, 0, 4, 0, 1);
        layerIs("14: a part", x, 0, 1, 1, 2, 3, 0);
        layerIs("14: the tenth", x, 2, 9, 0, 4, 27, 1);
        layerIs("14: aboard", x, 4, 0, 0, 1, 0, 0);
        x.take(0);
        Checks.refused("14: taken", NONE_SUCH, () -> x.layer(0, 1, 0));
        x.put(0, 0, 3);
        layerIs("14: in its place", x, 0, 1, 0, 3, 3, 0);
        x.unload(2);
        Checks.refused("14: unloaded", NONE_SUCH, () -> x.layer(4, 0, 0));
    }

    // Promise 15: NoSuchElementException ahead of the stop's range.
    private static void truckOfNone() {
        for (int pallet : NO_PALLETS) {
            for (int stop : new int[] {MIN, -1, 0, 9, 10, MAX}) {
                Checks.refusedUnchanged("15: pallet " + pallet, NONE_SUCH, YARD, x -> x.truck(pallet, stop));
            }
        }
    }

    // Promise 15: "for a stop (0 .. 9)", ahead of what is not as it is now.
    private static void truckStopOutside() {
        for (int stop : NO_STOPS) {
            for (int pallet = 0; pallet <= 6; pallet++) {
                int p = pallet;
                Checks.refusedUnchanged("15: stop " + stop + " of " + p, ARGUMENT, YARD, x -> x.truck(p, stop));
            }
        }
        Checks.due("15: stop 0", yard().truck(6, 0), 4);
        PalletLayers x = small();
        x.put(0, 0, 1);
        Checks.due("15: stop 9", x.truck(0, 9), 1);
    }

    // Promise 15: "it is on it, or has none"
    private static void truckNotAsItIs() {
        for (int stop : new int[] {0, 2, 5, 9}) {
            for (int pallet : new int[] {1, 3, 4}) {
                Checks.refusedUnchanged("15: it is on it", STATE, YARD, x -> x.truck(pallet, stop));
            }
            Checks.refusedUnchanged("15: it has none", STATE, YARD, x -> x.truck(5, stop));
        }
        PalletLayers taken = small();
        taken.put(0, 0, 1);
        taken.take(0);
        Checks.refused("15: its only layer was taken", STATE, () -> taken.truck(0, 0));
        PalletLayers unloaded = yard();
        unloaded.unload(2);
        Checks.refused("15: it was unloaded", STATE, () -> unloaded.truck(4, 2));
    }

    // Promise 15: "one that is on it has a lesser stop (it would be barred)"
    private static void truckLesserStop() {
        for (int stop = 3; stop <= 9; stop++) {
            int s = stop;
            Checks.refusedUnchanged("15: 2 is less than " + s, STATE, YARD, x -> x.truck(0, s));
        }
        for (int stop = 0; stop <= 2; stop++) {
            PalletLayers x = yard();
            Checks.due("15: none is less than " + stop, x.truck(0, stop), 4);
            Checks.due("15: the last one is the first to be unloaded", x.order(0), 0);
        }
        PalletLayers x = yard();
        x.unload(2);
        Checks.refused("15: 5 is less than 6", STATE, () -> x.truck(0, 6));
        Checks.due("15: the lesser one is unloaded", x.truck(0, 5), 3);
        x.unload(5);
        Checks.due("15: the truck is empty", x.truck(6, 9), 1);
        for (int stop = 0; stop <= 9; stop++) {
            int s = stop;
            Supplier<PalletLayers> oneAboard = () -> aboardFor(s);
            for (int second = 0; second <= 9; second++) {
                int t = second;
                if (t > s) {
                    Checks.refusedUnchanged("15: " + t + " behind " + s, STATE, oneAboard, y -> y.truck(1, t));
                } else {
                    Checks.due("15: " + t + " behind " + s, aboardFor(s).truck(1, t), 2);
                }
            }
        }
    }

    /** Eight laden pallets; so many of them, from 0 on, are aboard for these stops. */
    private static PalletLayers aboardFor(int... stops) {
        PalletLayers x = eightLaden();
        for (int i = 0; i < stops.length; i++) {
            x.truck(i, stops[i]);
        }
        return x;
    }

    private static PalletLayers eightLaden() {
        PalletLayers x = small();
        for (int i = 1; i < 8; i++) {
            x.pallet();
        }
        for (int i = 0; i < 8; i++) {
            x.put(i, 0, 1);
        }
        return x;
    }

    // Promise 15: all pallets that there can be are on the truck.
    private static void truckOfAllEight() {
        PalletLayers x = eightLaden();
        for (int i = 0; i < 8; i++) {
            Checks.due("15: so many are on it", x.truck(i, 9 - i), i + 1);
        }
        for (int i = 0; i < 8; i++) {
            Checks.due("17: the last one first", x.order(i), 7 - i);
        }
        Checks.refused("17: not nine", NONE_SUCH, () -> x.order(8));
        for (int i = 7; i >= 0; i--) {
            Checks.due("16: one by one", x.unload(9 - i), 1);
            Checks.due("18: so many are left", x.count(2), i);
        }
        PalletLayers same = eightLaden();
        for (int i = 0; i < 8; i++) {
            same.truck(7 - i, 9);
        }
        Checks.due("16: all at one stop", same.unload(9), 8);
        Checks.due("18: no boxes are left", same.count(3), 0);
    }

    // Promise 16: a stop outside 0 .. 9, ahead of one that is barred.
    private static void unloadStopOutside() {
        for (int stop : NO_STOPS) {
            Checks.refusedUnchanged("16: stop " + stop, ARGUMENT, YARD, x -> x.unload(stop));
        }
    }

    // Promise 16: "one that went on behind one of them is for another stop"
    private static void unloadBarred() {
        Checks.refusedUnchanged("16: 2 went on behind 5", STATE, YARD, x -> x.unload(5));
        PalletLayers x = yard();
        Checks.due("16: nothing is behind 2", x.unload(2), 1);
        Checks.due("16: nothing is behind 5 now", x.unload(5), 2);
        PalletLayers again = yard();
        again.truck(0, 2);
        again.truck(6, 0);
        Checks.refused("16: 0 went on behind 2", STATE, () -> again.unload(2));
        Checks.refused("16: and behind 5", STATE, () -> again.unload(5));
        Checks.due("16: nothing is behind 0", again.unload(0), 1);
        Checks.due("16: both for 2", again.unload(2), 2);
        Checks.refusedUnchanged("16: one behind one", STATE, () -> aboardFor(1, 0), y -> y.unload(1));
        Checks.refusedUnchanged("16: one behind two", STATE, () -> aboardFor(9, 9, 8), y -> y.unload(9));
        Checks.refusedUnchanged("16: two behind one", STATE, () -> aboardFor(9, 8, 8), y -> y.unload(9));
        Checks.refusedUnchanged("16: in the middle", STATE, () -> aboardFor(9, 5, 0), y -> y.unload(5));
        Checks.due("16: one for the same stop is behind", aboardFor(9, 5, 5).unload(5), 2);
        Checks.due("16: those ahead do not matter", aboardFor(9, 5, 0).unload(0), 1);
    }

    // Promise 16: none for a stop: 0, whatever stands on the truck.
    private static void unloadNone() {
        for (int stop : new int[] {0, 1, 3, 4, 6, 9}) {
            Checks.dueUnchanged("16: none for " + stop, 0, YARD, x -> x.unload(stop));
        }
        PalletLayers x = yard();
        x.unload(2);
        Checks.due("16: none for 2 any more", x.unload(2), 0);
    }

    // Promise 16: "they are on no truck then, and have no layers"; the others stay.
    private static void unloadLastFirst() {
        PalletLayers x = yard();
        Checks.due("16: first", x.order(0), 4);
        Checks.due("16: second", x.order(1), 3);
        Checks.due("16: third", x.order(2), 1);
        x.unload(2);
        toldIs("16: unloaded", x, 4, 0, 0, 0, 0, -1, 0);
        toldIs("16: stays", x, 3, 30, 280, 10, 40, 5, 1);
        toldIs("16: on no truck at any time", x, 0, 5, 38, 2, 6, -1, 3);
        Checks.due("17: the next", x.order(0), 3);
        x.unload(5);
        toldIs("16: unloaded", x, 1, 0, 0, 0, 0, -1, 0);
        toldIs("16: unloaded", x, 3, 0, 0, 0, 0, -1, 0);
        Checks.due("8: the pallets are there", x.count(1), 7);
        Checks.due("16: to be used again", x.put(3, 0, 4), 1);
        layerIs("16: from the bottom", x, 3, 0, 0, 4, 0, 1);
    }

    // Promise 17: "NoSuchElementException: there are not so many"
    private static void orderOfNotSoMany() {
        for (int i : new int[] {MIN, -1, 3, 4, 7, 8, MAX}) {
            Checks.refusedUnchanged("17: order(" + i + ") of three", NONE_SUCH, YARD, x -> x.order(i));
        }
        PalletLayers x = yard();
        Checks.due("17: the last of three", x.order(2), 1);
        x.unload(2);
        Checks.refused("17: two are left", NONE_SUCH, () -> x.order(2));
        x.unload(5);
        Checks.refused("17: none is left", NONE_SUCH, () -> x.order(0));
    }

    // Promise 18: "-1 for another what"
    private static void countOfAnotherWhat() {
        for (int what : new int[] {MIN, MIN + 1, -2, -1, 6, 7, MAX - 1, MAX}) {
            Checks.dueUnchanged("18: count(" + what + ")", -1, YARD, x -> x.count(what));
        }
    }

    // Promise 18: "5 the steps of the last search": those that were made; refused ones are none.
    private static void countOfSteps() {
        Checks.due("18: no search yet", new PalletLayers(3, 3).count(5), 0);
        PalletLayers x = yard();
        Checks.due("18: the last one", x.count(5), 8);
        Checks.refused("18: refused", STATE, () -> x.search(0, 0));
        Checks.refused("18: refused", ARGUMENT, () -> x.search(3, 5001));
        Checks.refused("18: refused", NONE_SUCH, () -> x.search(4, 7));
        Checks.due("18: the last one still", x.count(5), 8);
        x.search(3, 1);
        Checks.due("18: all of 1", x.count(5), 1);
        x.search(3, 0);
        Checks.due("18: none", x.count(5), 0);
        x.search(2, 5000);
        Checks.due("18: 16 of 5000", x.count(5), 16);
    }

    // Promise 18: "3 boxes on all pallets, 4 of these those on the truck"
    private static void countOfBoxes() {
        PalletLayers x = yard();
        int[] want = {4, 7, 3, 6 + 4 + 40 + 40 + 1 + 4, 4 + 40 + 1};
        for (int what = 0; what < want.length; what++) {
            Checks.due("18: count(" + what + ")", x.count(what), want[what]);
        }
        x.unload(2);
        x.unload(5);
        Checks.due("18: boxes then", x.count(3), 6 + 40 + 4);
        Checks.due("18: on the truck then", x.count(4), 0);
        PalletLayers most = new PalletLayers(6, 6);
        most.kind(1, 1, 1, 0);
        most.search(0, 5000);
        for (int i = 0; i < 8; i++) {
            most.pallet();
            most.fill(i, 0, 600);
            most.truck(i, 0);
        }
        Checks.due("18: as many boxes as there can be", most.count(3), 8 * 360);
        Checks.due("18: all on the truck", most.count(4), 8 * 360);
    }
}
