import java.util.ArrayList;
import java.util.List;
import java.util.NoSuchElementException;
import java.util.Random;

/**
 * Long runs of calls, right and wrong ones, against a plain model that holds every box as a
 * rectangle; the runs come from fixed seeds, so they are always the same.
 */
public final class RandomRunsTest {
    private static final int RUNS = 3000;
    private static final int CALLS = 300;

    private record Box(int x, int y, int w, int d) {
        int common(Box other) {
            int across = Math.min(x + w, other.x + other.w) - Math.max(x, other.x);
            int along = Math.min(y + d, other.y + other.d) - Math.max(y, other.y);
            return across > 0 && along > 0 ? across * along : 0;
        }
    }

    private record Layer(int kind, List<Box> boxes) {
    }

    private static final class Stack {
        final int number;
        final List<Layer> layers = new ArrayList<>();
        int stop = -1;

        Stack(int number) {
            this.number = number;
        }
    }

    /** What the class should be; the patterns alone are read from it (SearchModelTest has them). */
    private static final class Model {
        final PalletLayers x;
        final List<int[]> kinds = new ArrayList<>();
        final List<List<Box>> patterns = new ArrayList<>();
        final List<Stack> stacks = new ArrayList<>();
        final List<Stack> truck = new ArrayList<>();
        int share = 50;
        int door = 100;
        int load = 10000;

        Model(PalletLayers x) {
            this.x = x;
        }

        long call(int method, int a, int b, int c, int d) {
            switch (method) {
                case 0: return kind(a, b, c, d);
                case 1: return search(a, b);
                case 2: return rules(a, b, c);
                case 3: return pallet();
                case 4: return put(a, b, c);
                case 5: return fill(a, b, c);
                case 6: return take(a);
                case 7: return support(a, b, c);
                case 8: return told(a, b);
                case 9: return layer(a, b, c);
                case 10: return truck(a, b);
                case 11: return unload(a);
                case 12: return order(a);
                default: return count(a);
            }
        }

        private static void need(boolean holds, RuntimeException otherwise) {
            if (!holds) {
                throw otherwise;
            }
        }

        private static boolean in(int n, int from, int to) {
            return from <= n && n <= to;
        }

        private static void needArgument(boolean holds) {
            need(holds, new IllegalArgumentException());
        }

        private static void needState(boolean holds) {
            need(holds, new IllegalStateException());
        }

        private void needKind(int k) {
            need(in(k, 0, kinds.size() - 1), new NoSuchElementException());
        }

        private Stack stack(int p) {
            need(in(p, 0, stacks.size() - 1), new NoSuchElementException());
            return stacks.get(p);
        }

        private long kind(int w, int d, int h, int weight) {
            needArgument(in(w, 1, 6) && in(d, 1, 6) && in(h, 1, 6) && in(weight, 0, 100));
            need(kinds.size() < 6, new UnsupportedOperationException());
            kinds.add(new int[] {w, d, h, weight});
            patterns.add(new ArrayList<>());
            return kinds.size() - 1;
        }

        private long search(int k, int steps) {
            needKind(k);
            needArgument(in(steps, 0, 5000));
            needState(stacks.stream().noneMatch(s -> s.layers.stream().anyMatch(l -> l.kind == k)));
            List<Box> boxes = patterns.get(k);
            boxes.clear();
            RuntimeException end = Checks.thrownBy(() -> {
                for (int i = 0; i <= 36; i++) {
                    boolean turned = x.pattern(k, i, 2) == 1;
                    int[] size = kinds.get(k);
                    boxes.add(new Box(x.pattern(k, i, 0), x.pattern(k, i, 1),
                        turned ? size[1] : size[0], turned ? size[0] : size[1]));
                }
            });
            Checks.holds("pattern ends", end instanceof ArrayIndexOutOfBoundsException);
            return boxes.size();
        }

        private long rules(int newShare, int newDoor, int newLoad) {
            needArgument(in(newShare, 0, 100) && in(newDoor, 1, 100) && in(newLoad, 0, 10000));
            share = newShare;
            door = newDoor;
            load = newLoad;
            return 0;
        }

        private long pallet() {
            need(stacks.size() < 8, new UnsupportedOperationException());
            stacks.add(new Stack(stacks.size()));
            return stacks.size() - 1;
        }

        private static int supported(Stack s, int layer, Box box) {
            return layer == 0 ? box.w * box.d
                : s.layers.get(layer - 1).boxes.stream().mapToInt(box::common).sum();
        }

        private long tryLayer(Stack s, int k, int n) {
            if (patterns.get(k).size() < n) {
                return -1;
            }
            List<Box> boxes = new ArrayList<>(patterns.get(k).subList(0, n));
            for (Box box : boxes) {
                if (supported(s, s.layers.size(), box) * 100 < share * box.w * box.d) {
                    return -2;
                }
            }
            if (height(s, s.layers.size()) + kinds.get(k)[2] > door) {
                return -3;
            }
            if (weight(s) + n * kinds.get(k)[3] > load) {
                return -4;
            }
            s.layers.add(new Layer(k, boxes));
            return s.layers.size();
        }

        private int height(Stack s, int layers) {
            return s.layers.subList(0, layers).stream().mapToInt(l -> kinds.get(l.kind)[2]).sum();
        }

        private int weight(Stack s) {
            return s.layers.stream().mapToInt(l -> kinds.get(l.kind)[3] * l.boxes.size()).sum();
        }

        private static int boxes(Stack s) {
            return s.layers.stream().mapToInt(l -> l.boxes.size()).sum();
        }

        private long put(int p, int k, int n) {
            Stack s = stack(p);
            needKind(k);
            needArgument(in(n, 1, 100));
            needState(s.stop < 0);
            need(s.layers.size() < 10, new UnsupportedOperationException());
            return tryLayer(s, k, n);
        }

        private long fill(int p, int k, int n) {
            Stack s = stack(p);
            needKind(k);
            needArgument(in(n, 1, 600));
            needState(s.stop < 0);
            int full = patterns.get(k).size();
            if (full == 0) {
                return 0;
            }
            for (int i = 0; i < n / full; i++) {
                if (s.layers.size() == 10 || tryLayer(s, k, full) < 0) {
                    return (long) i * full;
                }
            }
            boolean restCame = n % full != 0 && s.layers.size() < 10 && tryLayer(s, k, n % full) > 0;
            return restCame ? n : n - n % full;
        }

        private long take(int p) {
            Stack s = stack(p);
            needState(s.stop < 0 && !s.layers.isEmpty());
            return s.layers.remove(s.layers.size() - 1).boxes.size();
        }

        private Layer layerOf(int p, int l) {
            Stack s = stack(p);
            need(in(l, 0, s.layers.size() - 1), new NoSuchElementException());
            return s.layers.get(l);
        }

        private long support(int p, int l, int i) {
            Layer found = layerOf(p, l);
            need(in(i, 0, found.boxes.size() - 1), new NoSuchElementException());
            Box box = found.boxes.get(i);
            return supported(stack(p), l, box) * 100 / (box.w * box.d);
        }

        private long told(int p, int what) {
            Stack s = stack(p);
            needArgument(in(what, 0, 5));
            int bits = s.layers.stream().mapToInt(l -> 1 << l.kind).reduce(0, (u, v) -> u | v);
            return new int[] {height(s, s.layers.size()), weight(s), s.layers.size(), boxes(s), s.stop, bits}[what];
        }

        private long layer(int p, int l, int what) {
            Layer found = layerOf(p, l);
            needArgument(in(what, 0, 3));
            int full = found.boxes.size() == patterns.get(found.kind).size() ? 1 : 0;
            return new int[] {found.kind, found.boxes.size(), height(stack(p), l), full}[what];
        }

        private long truck(int p, int stop) {
            Stack s = stack(p);
            needArgument(in(stop, 0, 9));
            needState(s.stop < 0 && !s.layers.isEmpty() && truck.stream().noneMatch(t -> t.stop < stop));
            s.stop = stop;
            truck.add(s);
            return truck.size();
        }

        private long unload(int stop) {
            needArgument(in(stop, 0, 9));
            List<Stack> leaving = truck.stream().filter(t -> t.stop == stop).toList();
            if (leaving.isEmpty()) {
                return 0;
            }
            int first = truck.indexOf(leaving.get(0));
            needState(truck.subList(first, truck.size()).stream().allMatch(t -> t.stop == stop));
            truck.removeAll(leaving);
            for (Stack s : leaving) {
                s.stop = -1;
                s.layers.clear();
            }
            return leaving.size();
        }

        private long order(int i) {
            need(in(i, 0, truck.size() - 1), new NoSuchElementException());
            return truck.get(truck.size() - 1 - i).number;
        }

        private long count(int what) {
            switch (what) {
                case 0: return kinds.size();
                case 1: return stacks.size();
                case 2: return truck.size();
                case 3: return stacks.stream().mapToInt(Model::boxes).sum();
                case 4: return truck.stream().mapToInt(Model::boxes).sum();
                default: return -1;
            }
        }
    }

    private static long callClass(PalletLayers x, int method, int[] a) {
        switch (method) {
            case 0: return x.kind(a[0], a[1], a[2], a[3]);
            case 1: return x.search(a[0], a[1]);
            case 2: x.rules(a[0], a[1], a[2]); return 0;
            case 3: return x.pallet();
            case 4: return x.put(a[0], a[1], a[2]);
            case 5: return x.fill(a[0], a[1], a[2]);
            case 6: return x.take(a[0]);
            case 7: return x.support(a[0], a[1], a[2]);
            case 8: return x.told(a[0], a[1]);
            case 9: return x.layer(a[0], a[1], a[2]);
            case 10: return x.truck(a[0], a[1]);
            case 11: return x.unload(a[0]);
            case 12: return x.order(a[0]);
            default: return x.count(a[0]);
        }
    }

    /** The greatest right value of each argument; one is drawn from a little below 0 to above it. */
    private static final int[][] MOST = {{6, 6, 6, 100}, {5, 5000}, {100, 100, 10000}, {}, {7, 5, 9}, {7, 5, 60},
        {7}, {7, 9, 12}, {7, 5}, {7, 9, 3}, {7, 9}, {9}, {8}, {4}};
    /** How often each method is called: put and fill often, so that the stacks grow. */
    private static final int[] DRAWN = {0, 0, 1, 1, 2, 3, 3, 4, 4, 4, 4, 4, 5, 5, 6, 7, 7, 7, 8, 8, 9, 9, 10, 10, 11,
        12, 13};

    private static int[] arguments(Random random, int method) {
        int[] a = new int[4];
        for (int i = 0; i < MOST[method].length; i++) {
            int drawn = random.nextInt(60);
            int most = MOST[method][i];
            a[i] = drawn == 0 ? -1 - random.nextInt(3) : drawn == 1 ? most + random.nextInt(9)
                : drawn == 2 ? random.nextInt() : random.nextInt(most + 1);
        }
        if (method == 13 && a[0] == 5) {
            a[0] = -1;
        }
        // Small numbers meet what there is more often.
        if ((method == 4 || method == 5) && a[0] > 3 && a[0] <= 7) {
            a[0] -= 4;
        }
        return a;
    }

    private static String outcome(PalletLayers x, int method, int[] a) {
        try {
            return Long.toString(callClass(x, method, a));
        } catch (RuntimeException thrown) {
            return Checks.isTheMachines(thrown) ? "the machine's " + thrown : thrown.getClass().getSimpleName();
        }
    }

    private static String due(Model model, int method, int[] a) {
        try {
            return Long.toString(model.call(method, a[0], a[1], a[2], a[3]));
        } catch (NoSuchElementException | IllegalArgumentException | IllegalStateException
                | UnsupportedOperationException thrown) {
            return thrown.getClass().getSimpleName();
        }
    }

    public static void main(String[] args) {
        int[] answered = new int[MOST.length];
        for (int run = 0; run < RUNS; run++) {
            Random random = new Random(run);
            PalletLayers x = new PalletLayers(random.nextInt(9) - 1, random.nextInt(9) - 1);
            Model model = new Model(x);
            for (int i = 0; i < CALLS; i++) {
                int method = DRAWN[random.nextInt(DRAWN.length)];
                int[] a = arguments(random, method);
                String got = outcome(x, method, a);
                String want = due(model, method, a);
                Checks.holds("seed " + run + " call " + i + ": method " + method + " of " + a[0] + ", " + a[1] + ", "
                    + a[2] + ", " + a[3] + ": answered " + got + ", due is " + want + ": this", got.equals(want));
                answered[method] += got.matches("[1-9][0-9]*") ? 1 : 0;
            }
        }
        for (int method = 0; method < answered.length; method++) {
            Checks.holds("method " + method + " answers more than 0 now and then", method == 2 || answered[method] > 300);
        }
        Checks.end();
    }
}
