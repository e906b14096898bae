import java.util.NoSuchElementException;

/** Each promise of the document: ordinary inputs, the edges that it names, and wrong inputs. */
public final class PromisesTest {
    private static final Class<NoSuchElementException> NONE_SUCH = NoSuchElementException.class;
    private static final Class<IllegalArgumentException> ARGUMENT = IllegalArgumentException.class;
    private static final Class<IllegalStateException> STATE = IllegalStateException.class;
    private static final Class<UnsupportedOperationException> NO_ROOM = UnsupportedOperationException.class;
    private static final Class<ArrayIndexOutOfBoundsException> INDEX = ArrayIndexOutOfBoundsException.class;
    private static final int MIN = Integer.MIN_VALUE;
    private static final int MAX = Integer.MAX_VALUE;

    public static void main(String[] args) {
        newObject();
        kind();
        search();
        searchSteps();
        pattern();
        exact();
        bound();
        rules();
        pallet();
        put();
        putReasonsInTheirOrder();
        rulesAtFirst();
        fill();
        take();
        support();
        told();
        layer();
        truck();
        unload();
        order();
        count();
        refusalsInTheirOrder();
        Checks.end();
    }

    /** A 4 x 4 area with kind 0, a box of 2 x 2 x 3 that weighs 7: four in a pattern. */
    private static PalletLayers fours() {
        PalletLayers x = new PalletLayers(4, 4);
        x.kind(2, 2, 3, 7);
        x.search(0, 5000);
        return x;
    }

    /** The same with so many pallets of one layer each. */
    private static PalletLayers foursOn(int pallets) {
        PalletLayers x = fours();
        for (int i = 0; i < pallets; i++) {
            x.pallet();
            x.put(i, 0, 4);
        }
        return x;
    }

    private static int boundOfCells(PalletLayers x) {
        return x.bound(x.kind(1, 1, 1, 1));
    }

    private static void newObject() {
        for (int what = 0; what <= 5; what++) {
            Checks.due("new: count(" + what + ")", new PalletLayers(3, 3).count(what), 0);
        }
        Checks.refused("new: exact(0)", NONE_SUCH, () -> new PalletLayers(3, 3).exact(0));
        Checks.due("1: area 4 x 3", boundOfCells(new PalletLayers(4, 3)), 12);
        Checks.due("1: 0 counts as 1", boundOfCells(new PalletLayers(0, 5)), 5);
        Checks.due("1: less counts as 1", boundOfCells(new PalletLayers(5, MIN)), 5);
        Checks.due("1: 7 counts as 6", boundOfCells(new PalletLayers(7, 1)), 6);
        Checks.due("1: more counts as 6", boundOfCells(new PalletLayers(MAX, MAX)), 36);
        PalletLayers wide = new PalletLayers(4, 1);
        wide.kind(1, 1, 1, 1);
        wide.search(0, 5000);
        Checks.due("1: width goes with x", wide.pattern(0, 3, 0), 3);
        Checks.due("1: depth goes with y", wide.pattern(0, 3, 1), 0);
    }

    private static void kind() {
        PalletLayers x = new PalletLayers(6, 6);
        Checks.due("2: first", x.kind(1, 1, 1, 0), 0);
        Checks.due("2: greatest", x.kind(6, 6, 6, 100), 1);
        Checks.due("2: no boxes at first", x.put(x.pallet(), 0, 1), -1);
        Checks.holds("2: not exact at first", !x.exact(0));
        int[][] bad = {{0, 1, 1, 1}, {7, 1, 1, 1}, {1, 0, 1, 1}, {1, 7, 1, 1}, {1, 1, 0, 1}, {1, 1, 7, 1},
            {1, 1, 1, -1}, {1, 1, 1, 101}, {MIN, 1, 1, 1}, {1, MAX, 1, 1}};
        for (int[] b : bad) {
            Checks.refused("2: outside", ARGUMENT, () -> x.kind(b[0], b[1], b[2], b[3]));
        }
        Checks.due("2: refused ones are not kept", x.count(0), 2);
        for (int i = 2; i < 6; i++) {
            Checks.due("2: as they come", x.kind(2, 1, 1, 1), i);
        }
        Checks.refused("2: the seventh", NO_ROOM, () -> x.kind(1, 1, 1, 1));
        Checks.refused("2: its range is asked first", ARGUMENT, () -> x.kind(1, 1, 1, 101));
        Checks.due("2: six", x.count(0), 6);
    }

    private static void search() {
        PalletLayers x = fours();
        Checks.due("3: four squares", x.search(0, 5000), 4);
        Checks.refused("3: no such kind", NONE_SUCH, () -> x.search(1, 5000));
        Checks.refused("3: kind below", NONE_SUCH, () -> x.search(-1, 5000));
        Checks.refused("3: steps below", ARGUMENT, () -> x.search(0, -1));
        Checks.refused("3: steps above", ARGUMENT, () -> x.search(0, 5001));
        Checks.due("3: a refused one changes nothing", x.pattern(0, 3, 0), 2);
        x.pallet();
        x.put(0, 0, 1);
        Checks.refused("3: on a pallet", STATE, () -> x.search(0, 5000));
        Checks.refused("3: range ahead of state", ARGUMENT, () -> x.search(0, 5001));
        x.kind(1, 1, 1, 1);
        Checks.due("3: another kind may be sought", x.search(1, 5000), 16);
        x.truck(0, 1);
        Checks.refused("3: on a truck's pallet", STATE, () -> x.search(0, 5000));
        x.unload(1);
        Checks.due("3: sought anew, no steps, no boxes", x.search(0, 0), 0);
        Checks.refused("3: the old pattern is gone", INDEX, () -> x.pattern(0, 0, 0));
    }

    /**
     * 4 x 3 with boxes of 2 x 3: box, box (2 boxes), free, pruned, turned box, pruned, free,
     * pruned: 5 steps, and with just 5 no trial lacks one.
     */
    private static void searchSteps() {
        PalletLayers x = new PalletLayers(4, 3);
        x.kind(2, 3, 1, 1);
        int[] boxes = {0, 0, 2, 2, 2, 2, 2};
        for (int steps = 0; steps < boxes.length; steps++) {
            Checks.due("3: boxes with " + steps, x.search(0, steps), boxes[steps]);
            Checks.due("3: steps made of " + steps, x.count(5), Math.min(steps, 5));
            Checks.holds("5: exact with " + steps, x.exact(0) == steps >= 5);
        }
        x.kind(4, 4, 1, 1);
        Checks.due("3: too great a box", x.search(1, 5000), 0);
        Checks.due("3: every cell is left free once", x.count(5), 12);
        Checks.holds("5: exact without boxes", x.exact(1));
        Checks.due("3: not all could be left free", x.search(1, 11), 0);
        Checks.holds("5: not exact", !x.exact(1));
        PalletLayers row = new PalletLayers(1, 1);
        row.kind(1, 1, 1, 1);
        row.search(0, 5000);
        Checks.due("3: no second way of a square: a box, then free", row.count(5), 2);
    }

    private static void pattern() {
        PalletLayers x = new PalletLayers(4, 3);
        x.kind(3, 1, 1, 1);
        Checks.refused("4: none yet", INDEX, () -> x.pattern(0, 0, 0));
        Checks.due("4: three lie, one stands", x.search(0, 5000), 4);
        int[][] want = {{0, 0, 0}, {3, 0, 1}, {0, 1, 0}, {0, 2, 0}};
        for (int i = 0; i < want.length; i++) {
            for (int what = 0; what < 3; what++) {
                Checks.due("4: pattern(0, " + i + ", " + what + ")", x.pattern(0, i, what), want[i][what]);
            }
        }
        for (int i : new int[] {-1, 4, 36, 37, MIN, MAX}) {
            Checks.refused("4: box " + i, INDEX, () -> x.pattern(0, i, 0));
        }
        for (int what : new int[] {-1, 3, MIN, MAX}) {
            Checks.refused("4: what " + what, ARGUMENT, () -> x.pattern(0, 0, what));
            Checks.refused("4: what ahead of the box", ARGUMENT, () -> x.pattern(0, 4, what));
        }
        for (int kind : new int[] {-1, 1, 6, MIN, MAX}) {
            Checks.refused("4: kind " + kind, NONE_SUCH, () -> x.pattern(kind, 9, 9));
        }
    }

    private static void exact() {
        PalletLayers x = new PalletLayers(1, 6);
        x.kind(1, 1, 1, 1);
        Checks.holds("5: not sought", !x.exact(0));
        x.search(0, 6);
        Checks.holds("5: the best, but a trial lacked a step", !x.exact(0));
        x.search(0, 5000);
        Checks.holds("5: all looked at", x.exact(0));
        x.search(0, 0);
        Checks.holds("5: not any more", !x.exact(0));
        for (int kind : new int[] {-1, 1, MIN, MAX}) {
            Checks.refused("5: kind " + kind, NONE_SUCH, () -> x.exact(kind));
        }
    }

    private static void bound() {
        PalletLayers x = new PalletLayers(5, 5);
        x.kind(2, 3, 1, 1);
        x.kind(6, 6, 1, 1);
        x.kind(5, 5, 1, 1);
        Checks.due("6: rests are dropped", x.bound(0), 4);
        Checks.due("6: none", x.bound(1), 0);
        Checks.due("6: one", x.bound(2), 1);
        for (int kind : new int[] {-1, 3, MIN, MAX}) {
            Checks.refused("6: kind " + kind, NONE_SUCH, () -> x.bound(kind));
        }
    }

    private static void rules() {
        int[][] bad = {{-1, 1, 1}, {101, 1, 1}, {1, 0, 1}, {1, 101, 1}, {1, 1, -1}, {1, 1, 10001},
            {MIN, 1, 1}, {1, MAX, 1}};
        PalletLayers x = foursOn(1);
        for (int[] b : bad) {
            Checks.refused("7: outside", ARGUMENT, () -> x.rules(b[0], b[1], b[2]));
        }
        Checks.due("7: refused rules change nothing", x.put(0, 0, 4), 2);
        x.rules(0, 1, 0);
        Checks.due("7: for layers to come alone", x.told(0, 2), 2);
        Checks.due("7: least rules", x.put(0, 0, 1), -3);
        x.rules(100, 100, 10000);
        Checks.due("7: greatest rules", x.put(0, 0, 4), 3);
    }

    /** Half a support is just enough at first, and the load is 10000; no ten layers reach the door. */
    private static void rulesAtFirst() {
        PalletLayers x = new PalletLayers(2, 2);
        x.kind(1, 2, 1, 1);
        x.kind(2, 1, 1, 1);
        x.search(0, 5000);
        x.search(1, 5000);
        x.pallet();
        x.put(0, 0, 1);
        Checks.due("7: a share of 50 at first: a half is enough", x.put(0, 1, 2), 2);
        Checks.due("12: a half", x.support(0, 1, 1), 50);
        PalletLayers fifths = new PalletLayers(5, 5);
        fifths.kind(2, 2, 1, 1);
        fifths.kind(5, 1, 1, 1);
        fifths.search(0, 5000);
        fifths.search(1, 5000);
        fifths.pallet();
        fifths.put(0, 0, 1);
        Checks.due("7: two of five are not enough at first", fifths.put(0, 1, 1), -2);
        fifths.rules(40, 100, 10000);
        Checks.due("7: they are with 40", fifths.put(0, 1, 1), 2);
        PalletLayers heavy = new PalletLayers(6, 6);
        heavy.kind(1, 1, 6, 100);
        heavy.search(0, 5000);
        heavy.pallet();
        heavy.fill(0, 0, 72);
        Checks.due("7: a load of 10000 at first: above it", heavy.put(0, 0, 29), -4);
        Checks.due("7: just it", heavy.put(0, 0, 28), 3);
        PalletLayers high = new PalletLayers(1, 1);
        high.kind(1, 1, 6, 0);
        high.search(0, 5000);
        high.pallet();
        Checks.due("7: the door at first is above ten of the highest", high.fill(0, 0, 10), 10);
    }

    private static void pallet() {
        PalletLayers x = new PalletLayers(2, 2);
        for (int i = 0; i < 8; i++) {
            Checks.due("8: as they come", x.pallet(), i);
            Checks.due("8: empty", x.told(i, 2), 0);
        }
        Checks.refused("8: the ninth", NO_ROOM, () -> x.pallet());
        Checks.due("8: eight", x.count(1), 8);
    }

    private static void put() {
        PalletLayers x = foursOn(1);
        Checks.due("9: a part layer", x.put(0, 0, 1), 2);
        Checks.due("9: its boxes", x.layer(0, 1, 1), 1);
        for (int n : new int[] {0, 101, MIN, MAX}) {
            Checks.refused("9: n " + n, ARGUMENT, () -> x.put(0, 0, n));
        }
        for (int bad : new int[] {-1, 1, 8, MIN, MAX}) {
            Checks.refused("9: pallet " + bad, NONE_SUCH, () -> x.put(bad, 0, 1));
            Checks.refused("9: kind " + bad, NONE_SUCH, () -> x.put(0, bad, 1));
        }
        for (int i = 3; i <= 10; i++) {
            Checks.due("9: layer", x.put(0, 0, 1), i);
        }
        Checks.refused("9: the eleventh", NO_ROOM, () -> x.put(0, 0, 1));
        Checks.refused("9: ahead of -1", NO_ROOM, () -> x.put(0, 0, 100));
        x.truck(0, 0);
        Checks.refused("9: truck ahead of room", STATE, () -> x.put(0, 0, 1));
        Checks.refused("9: range ahead of truck", ARGUMENT, () -> x.put(0, 0, 0));
        Checks.due("9: ten", x.told(0, 2), 10);
    }

    private static void putReasonsInTheirOrder() {
        PalletLayers x = fours();
        x.pallet();
        x.rules(50, 2, 6);
        Checks.due("9: -1 ahead of the others", x.put(0, 0, 5), -1);
        Checks.due("9: -3 ahead of the load", x.put(0, 0, 1), -3);
        x.rules(50, 3, 6);
        Checks.due("9: -4", x.put(0, 0, 1), -4);
        x.rules(50, 3, 7);
        Checks.due("9: just the door and the load", x.put(0, 0, 1), 1);
        Checks.due("9: -2 ahead of the door", x.put(0, 0, 2), -2);
        Checks.due("9: the second is above the door", x.put(0, 0, 1), -3);
        x.rules(50, 6, 13);
        Checks.due("9: and above the load", x.put(0, 0, 1), -4);
        x.rules(0, 6, 21);
        Checks.due("9: without share, no support is needed", x.put(0, 0, 2), 2);
        Checks.due("9: weight", x.told(0, 1), 21);
    }

    private static void fill() {
        PalletLayers x = fours();
        x.pallet();
        Checks.due("10: two full layers and a part", x.fill(0, 0, 9), 9);
        Checks.due("10: three layers", x.told(0, 2), 3);
        Checks.due("10: the part", x.layer(0, 2, 1), 1);
        Checks.due("10: the full one has no support; the rest is not put then", x.fill(0, 0, 5), 0);
        Checks.due("10: a part that may stand", x.fill(0, 0, 1), 1);
        for (int n : new int[] {0, 601, MIN, MAX}) {
            Checks.refused("10: n " + n, ARGUMENT, () -> x.fill(0, 0, n));
        }
        for (int bad : new int[] {-1, 1, 8, MIN, MAX}) {
            Checks.refused("10: pallet " + bad, NONE_SUCH, () -> x.fill(bad, 0, 1));
            Checks.refused("10: kind " + bad, NONE_SUCH, () -> x.fill(0, bad, 1));
        }
        x.pallet();
        Checks.due("10: ten layers at most", x.fill(1, 0, 600), 40);
        Checks.due("10: no room is no refusal", x.fill(1, 0, 1), 0);
        x.truck(1, 0);
        Checks.refused("10: on a truck", STATE, () -> x.fill(1, 0, 1));
        Checks.refused("10: range ahead of truck", ARGUMENT, () -> x.fill(1, 0, 0));
        x.kind(5, 5, 1, 1);
        Checks.due("10: no boxes in its pattern", x.fill(0, 1, 600), 0);
        Checks.refused("10: truck ahead of no boxes", STATE, () -> x.fill(1, 1, 1));
        x.pallet();
        x.rules(50, 100, 60);
        Checks.due("10: as far as the load goes", x.fill(2, 0, 9), 8);
        x.pallet();
        x.rules(50, 8, 10000);
        Checks.due("10: as far as the door goes", x.fill(3, 0, 40), 8);
    }

    private static void take() {
        PalletLayers x = foursOn(1);
        x.put(0, 0, 3);
        Checks.due("11: the top one", x.take(0), 3);
        Checks.due("11: height", x.told(0, 0), 3);
        Checks.due("11: weight", x.told(0, 1), 28);
        Checks.due("11: layers", x.told(0, 2), 1);
        Checks.due("11: boxes", x.told(0, 3), 4);
        Checks.due("11: the lowest", x.take(0), 4);
        Checks.refused("11: none", STATE, () -> x.take(0));
        Checks.due("11: sought again", x.search(0, 5000), 4);
        x.put(0, 0, 1);
        x.truck(0, 0);
        Checks.refused("11: on a truck", STATE, () -> x.take(0));
        for (int bad : new int[] {-1, 1, 8, MIN, MAX}) {
            Checks.refused("11: pallet " + bad, NONE_SUCH, () -> x.take(bad));
        }
    }

    /** Bars of 1 x 3 and of 3 x 1 on a 3 x 3 area: crosswise, each has a third on each. */
    private static void support() {
        PalletLayers x = new PalletLayers(3, 3);
        x.kind(1, 3, 1, 1);
        x.kind(3, 1, 1, 1);
        x.search(0, 5000);
        x.search(1, 5000);
        x.pallet();
        x.rules(33, 100, 10000);
        x.put(0, 0, 1);
        Checks.due("12: the lowest: whole", x.support(0, 0, 0), 100);
        Checks.due("12: a third is enough", x.put(0, 1, 3), 2);
        for (int i = 0; i < 3; i++) {
            Checks.due("12: rests are dropped", x.support(0, 1, i), 33);
        }
        x.rules(34, 100, 10000);
        x.take(0);
        Checks.due("9: a third is not 34 hundredths", x.put(0, 1, 3), -2);
        x.put(0, 0, 1);
        Checks.due("12: whole upon its like", x.support(0, 1, 0), 100);
        x.take(0);
        x.rules(0, 100, 10000);
        x.put(0, 0, 3);
        Checks.due("12: none", x.support(0, 1, 2), 0);
        x.put(0, 1, 1);
        Checks.due("12: sum of several boxes", x.support(0, 2, 0), 100);
        for (int bad : new int[] {-1, 3, 10, MIN, MAX}) {
            Checks.refused("12: pallet " + bad, NONE_SUCH, () -> x.support(bad, 0, 0));
            Checks.refused("12: layer " + bad, NONE_SUCH, () -> x.support(0, bad, 0));
            Checks.refused("12: box " + bad, NONE_SUCH, () -> x.support(0, 1, bad));
        }
        Checks.refused("12: a box of the pattern, not of the layer", NONE_SUCH, () -> x.support(0, 2, 1));
    }

    private static void told() {
        PalletLayers x = foursOn(2);
        x.kind(4, 2, 5, 50);
        x.kind(1, 1, 1, 0);
        x.search(2, 5000);
        x.put(0, 2, 16);
        x.put(0, 0, 2);
        int[] want = {7, 42, 3, 22, -1, 5};
        for (int what = 0; what < want.length; what++) {
            Checks.due("13: told(0, " + what + ")", x.told(0, what), want[what]);
        }
        x.truck(0, 9);
        Checks.due("13: its stop", x.told(0, 4), 9);
        x.truck(1, 0);
        Checks.due("13: stop 0", x.told(1, 4), 0);
        x.unload(0);
        int[] emptied = {0, 0, 0, 0, -1, 0};
        for (int what = 0; what < emptied.length; what++) {
            Checks.due("13: emptied: told(1, " + what + ")", x.told(1, what), emptied[what]);
        }
        for (int what : new int[] {-1, 6, MIN, MAX}) {
            Checks.refused("13: what " + what, ARGUMENT, () -> x.told(0, what));
        }
        for (int bad : new int[] {-1, 2, 8, MIN, MAX}) {
            Checks.refused("13: pallet " + bad, NONE_SUCH, () -> x.told(bad, 6));
        }
    }

    private static void layer() {
        PalletLayers x = foursOn(1);
        x.kind(4, 2, 5, 50);
        x.search(1, 5000);
        x.put(0, 1, 1);
        int[][] want = {{0, 4, 0, 1}, {1, 1, 3, 0}};
        for (int layer = 0; layer < want.length; layer++) {
            for (int what = 0; what < 4; what++) {
                Checks.due("14: layer(0, " + layer + ", " + what + ")", x.layer(0, layer, what), want[layer][what]);
            }
        }
        for (int what : new int[] {-1, 4, MIN, MAX}) {
            Checks.refused("14: what " + what, ARGUMENT, () -> x.layer(0, 0, what));
        }
        for (int bad : new int[] {-1, 2, 10, MIN, MAX}) {
            Checks.refused("14: pallet " + bad, NONE_SUCH, () -> x.layer(bad, 0, 0));
            Checks.refused("14: layer " + bad, NONE_SUCH, () -> x.layer(0, bad, 4));
        }
    }

    private static void truck() {
        PalletLayers x = foursOn(4);
        Checks.due("15: first", x.truck(0, 9), 1);
        Checks.refused("15: it is on it", STATE, () -> x.truck(0, 9));
        Checks.due("15: a lesser stop", x.truck(1, 5), 2);
        Checks.due("15: the same stop", x.truck(2, 5), 3);
        Checks.refused("15: would be barred", STATE, () -> x.truck(3, 6));
        Checks.due("15: refused ones are not on it", x.told(3, 4), -1);
        x.pallet();
        Checks.refused("15: no layers", STATE, () -> x.truck(4, 0));
        for (int stop : new int[] {-1, 10, MIN, MAX}) {
            Checks.refused("15: stop " + stop, ARGUMENT, () -> x.truck(3, stop));
            Checks.refused("15: range ahead of state", ARGUMENT, () -> x.truck(4, stop));
        }
        for (int bad : new int[] {-1, 5, 8, MIN, MAX}) {
            Checks.refused("15: pallet " + bad, NONE_SUCH, () -> x.truck(bad, 10));
        }
        Checks.due("15: least stop", x.truck(3, 0), 4);
        PalletLayers all = foursOn(8);
        for (int i = 0; i < 8; i++) {
            Checks.due("15: all eight", all.truck(i, 3), i + 1);
        }
    }

    private static void unload() {
        PalletLayers x = foursOn(4);
        x.truck(2, 7);
        x.truck(0, 5);
        x.truck(1, 5);
        x.truck(3, 2);
        Checks.refused("16: barred", STATE, () -> x.unload(5));
        Checks.due("16: a refusal changes nothing", x.count(2), 4);
        Checks.due("16: none for it", x.unload(6), 0);
        Checks.due("16: one", x.unload(2), 1);
        Checks.due("16: two", x.unload(5), 2);
        Checks.due("16: no layers then", x.told(0, 2) + x.told(1, 2) + x.told(3, 2), 0);
        Checks.due("16: on no truck then", x.told(1, 4), -1);
        Checks.due("16: the other stays", x.told(2, 4), 7);
        Checks.due("16: with its layer", x.told(2, 2), 1);
        Checks.due("16: again", x.unload(5), 0);
        x.put(1, 0, 2);
        Checks.due("16: an unloaded pallet is used again", x.truck(1, 7), 2);
        Checks.due("16: the rest", x.unload(7), 2);
        for (int stop : new int[] {-1, 10, MIN, MAX}) {
            Checks.refused("16: stop " + stop, ARGUMENT, () -> x.unload(stop));
        }
    }

    private static void order() {
        PalletLayers x = foursOn(3);
        Checks.refused("17: empty", NONE_SUCH, () -> x.order(0));
        x.truck(1, 4);
        x.truck(2, 4);
        x.truck(0, 3);
        int[] want = {0, 2, 1};
        for (int i = 0; i < want.length; i++) {
            Checks.due("17: order(" + i + ")", x.order(i), want[i]);
        }
        for (int i : new int[] {-1, 3, 8, MIN, MAX}) {
            Checks.refused("17: order(" + i + ")", NONE_SUCH, () -> x.order(i));
        }
        x.unload(3);
        Checks.due("17: after one stop", x.order(0), 2);
        Checks.refused("17: not so many now", NONE_SUCH, () -> x.order(2));
    }

    private static void count() {
        PalletLayers x = foursOn(3);
        x.put(2, 0, 3);
        x.truck(0, 4);
        x.truck(2, 4);
        x.kind(1, 1, 1, 1);
        int[] want = {2, 3, 2, 15, 11};
        for (int what = 0; what < want.length; what++) {
            Checks.due("18: count(" + what + ")", x.count(what), want[what]);
        }
        x.search(1, 17);
        Checks.due("18: steps of the last search", x.count(5), 17);
        Checks.refused("18: a refused search", STATE, () -> x.search(0, 3));
        Checks.due("18: is no search", x.count(5), 17);
        x.search(1, 0);
        Checks.due("18: none", x.count(5), 0);
        for (int what : new int[] {-1, 6, MIN, MAX}) {
            Checks.due("18: count(" + what + ")", x.count(what), -1);
        }
        x.unload(4);
        Checks.due("18: boxes after unloading", x.count(3), 4);
        Checks.due("18: boxes on the truck then", x.count(4), 0);
    }

    private static void refusalsInTheirOrder() {
        PalletLayers x = foursOn(1);
        x.truck(0, 0);
        Checks.refused("put: kind ahead of n and truck", NONE_SUCH, () -> x.put(0, 9, 0));
        Checks.refused("put: pallet ahead of n", NONE_SUCH, () -> x.put(9, 0, 0));
        Checks.refused("fill: kind ahead of n and truck", NONE_SUCH, () -> x.fill(0, 9, 0));
        Checks.refused("fill: pallet ahead of n", NONE_SUCH, () -> x.fill(9, 0, 0));
        Checks.refused("search: kind ahead of steps", NONE_SUCH, () -> x.search(9, -1));
        Checks.refused("pattern: kind ahead of what", NONE_SUCH, () -> x.pattern(9, 0, 9));
        Checks.refused("layer: layer ahead of what", NONE_SUCH, () -> x.layer(0, 1, 9));
        Checks.refused("truck: pallet ahead of stop", NONE_SUCH, () -> x.truck(9, -1));
    }
}
