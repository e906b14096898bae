import java.util.ArrayList;
import java.util.HashMap;
import java.util.List;
import java.util.Map;
import java.util.NoSuchElementException;

/** What the class should be, said plainly: every box is a rectangle, every sum is made anew. */
final class PlainPallets implements Caller {
    private record Box(int x, int y, int w, int d) {
        int common(Box other) {
            int across = Math.min(x + w, other.x + other.w) - Math.max(x, other.x);
            int along = Math.min(y + d, other.y + other.d) - Math.max(y, other.y);
            return across > 0 && along > 0 ? across * along : 0;
        }
    }

    private record Layer(int kind, List<Box> boxes) {
    }

    private record Key(int w, int d, int boxW, int boxD, int steps) {
    }

    private static final class Kind {
        final int width;
        final int depth;
        final int height;
        final int weight;
        List<int[]> pattern = List.of();
        boolean exact = false;

        Kind(int width, int depth, int height, int weight) {
            this.width = width;
            this.depth = depth;
            this.height = height;
            this.weight = weight;
        }

        List<Box> first(int n) {
            List<Box> boxes = new ArrayList<>();
            for (int[] p : pattern.subList(0, n)) {
                boxes.add(new Box(p[0], p[1], p[2] == 0 ? width : depth, p[2] == 0 ? depth : width));
            }
            return boxes;
        }
    }

    private static final class Stack {
        final int number;
        final List<Layer> layers = new ArrayList<>();
        int stop = -1;

        Stack(int number) {
            this.number = number;
        }
    }

    /** The same search is made often in a test. */
    private static final Map<Key, PlainSearch> MADE = new HashMap<>();

    private final int width;
    private final int depth;
    private final List<Kind> kinds = new ArrayList<>();
    private final List<Stack> stacks = new ArrayList<>();
    private final List<Stack> truck = new ArrayList<>();
    private int share = 50;
    private int door = 100;
    private int load = 10000;
    private int lastSteps = 0;

    PlainPallets(int width, int depth) {
        this.width = width < 1 ? 1 : width > 6 ? 6 : width;
        this.depth = depth < 1 ? 1 : depth > 6 ? 6 : depth;
    }

    @Override
    public long call(Ask method, int... a) {
        switch (method) {
            case KIND: return kind(a[0], a[1], a[2], a[3]);
            case SEARCH: return search(a[0], a[1]);
            case PATTERN: return pattern(a[0], a[1], a[2]);
            case EXACT: return kindOf(a[0]).exact ? 1 : 0;
            case BOUND: return width * depth / (kindOf(a[0]).width * kindOf(a[0]).depth);
            case RULES: return rules(a[0], a[1], a[2]);
            case PALLET: return pallet();
            case PUT: return put(a[0], a[1], a[2]);
            case FILL: return fill(a[0], a[1], a[2]);
            case TAKE: return take(a[0]);
            case SUPPORT: return support(a[0], a[1], a[2]);
            case TOLD: return told(a[0], a[1]);
            case LAYER: return layer(a[0], a[1], a[2]);
            case TRUCK: return truck(a[0], a[1]);
            case UNLOAD: return unload(a[0]);
            case ORDER: return order(a[0]);
            default: return count(a[0]);
        }
    }

    @Override
    public String outcome(Ask method, int... a) {
        try {
            return Long.toString(call(method, a));
        } catch (Refusal refusal) {
            return refusal.getMessage();
        }
    }

    /** Its text is the name of what is due. */
    private static final class Refusal extends RuntimeException {
        private static final long serialVersionUID = 1L;

        Refusal(Class<? extends RuntimeException> due) {
            super(due.getSimpleName(), null, false, false);
        }
    }

    private static void need(boolean holds, Class<? extends RuntimeException> otherwise) {
        if (!holds) {
            throw new Refusal(otherwise);
        }
    }

    private static boolean in(int n, int from, int to) {
        return from <= n && n <= to;
    }

    private static void needArgument(boolean holds) {
        need(holds, IllegalArgumentException.class);
    }

    private static void needState(boolean holds) {
        need(holds, IllegalStateException.class);
    }

    private Kind kindOf(int k) {
        need(in(k, 0, kinds.size() - 1), NoSuchElementException.class);
        return kinds.get(k);
    }

    private Stack stack(int p) {
        need(in(p, 0, stacks.size() - 1), NoSuchElementException.class);
        return stacks.get(p);
    }

    private long kind(int w, int d, int h, int weight) {
        needArgument(in(w, 1, 6) && in(d, 1, 6) && in(h, 1, 6) && in(weight, 0, 100));
        need(kinds.size() < 6, UnsupportedOperationException.class);
        kinds.add(new Kind(w, d, h, weight));
        return kinds.size() - 1;
    }

    private long search(int k, int steps) {
        Kind kind = kindOf(k);
        needArgument(in(steps, 0, 5000));
        needState(stacks.stream().noneMatch(s -> s.layers.stream().anyMatch(l -> l.kind == k)));
        PlainSearch made = MADE.computeIfAbsent(new Key(width, depth, kind.width, kind.depth, steps),
            key -> new PlainSearch(key.w, key.d, key.boxW, key.boxD, key.steps, true));
        kind.pattern = made.pattern();
        kind.exact = made.exact;
        lastSteps = made.steps;
        return kind.pattern.size();
    }

    private long pattern(int k, int i, int what) {
        Kind kind = kindOf(k);
        needArgument(in(what, 0, 2));
        need(in(i, 0, kind.pattern.size() - 1), ArrayIndexOutOfBoundsException.class);
        return kind.pattern.get(i)[what];
    }

    private long rules(int newShare, int newDoor, int newLoad) {
        needArgument(in(newShare, 0, 100) && in(newDoor, 1, 100) && in(newLoad, 0, 10000));
        share = newShare;
        door = newDoor;
        load = newLoad;
        return 0;
    }

    private long pallet() {
        need(stacks.size() < 8, UnsupportedOperationException.class);
        stacks.add(new Stack(stacks.size()));
        return stacks.size() - 1;
    }

    private static int supported(Stack s, int layer, Box box) {
        if (layer == 0) {
            return box.w * box.d;
        }
        int sum = 0;
        for (Box below : s.layers.get(layer - 1).boxes) {
            sum += box.common(below);
        }
        return sum;
    }

    private long tryLayer(Stack s, int k, int n) {
        Kind kind = kinds.get(k);
        if (kind.pattern.size() < n) {
            return -1;
        }
        List<Box> boxes = kind.first(n);
        for (Box box : boxes) {
            if (supported(s, s.layers.size(), box) * 100 < share * box.w * box.d) {
                return -2;
            }
        }
        if (height(s, s.layers.size()) + kind.height > door) {
            return -3;
        }
        if (weight(s) + n * kind.weight > load) {
            return -4;
        }
        s.layers.add(new Layer(k, boxes));
        return s.layers.size();
    }

    private int height(Stack s, int layers) {
        int sum = 0;
        for (Layer l : s.layers.subList(0, layers)) {
            sum += kinds.get(l.kind).height;
        }
        return sum;
    }

    private int weight(Stack s) {
        int sum = 0;
        for (Layer l : s.layers) {
            sum += kinds.get(l.kind).weight * l.boxes.size();
        }
        return sum;
    }

    private static int boxes(List<Stack> some) {
        int sum = 0;
        for (Stack s : some) {
            for (Layer l : s.layers) {
                sum += l.boxes.size();
            }
        }
        return sum;
    }

    private long put(int p, int k, int n) {
        Stack s = stack(p);
        kindOf(k);
        needArgument(in(n, 1, 100));
        needState(s.stop < 0);
        need(s.layers.size() < 10, UnsupportedOperationException.class);
        return tryLayer(s, k, n);
    }

    private long fill(int p, int k, int n) {
        Stack s = stack(p);
        int full = kindOf(k).pattern.size();
        needArgument(in(n, 1, 600));
        needState(s.stop < 0);
        if (full == 0) {
            return 0;
        }
        for (int i = 0; i < n / full; i++) {
            if (s.layers.size() == 10 || tryLayer(s, k, full) < 0) {
                return (long) i * full;
            }
        }
        boolean restCame = n % full != 0 && s.layers.size() < 10 && tryLayer(s, k, n % full) > 0;
        return restCame ? n : n - n % full;
    }

    private long take(int p) {
        Stack s = stack(p);
        needState(s.stop < 0 && !s.layers.isEmpty());
        return s.layers.remove(s.layers.size() - 1).boxes.size();
    }

    private Layer layerOf(int p, int l) {
        Stack s = stack(p);
        need(in(l, 0, s.layers.size() - 1), NoSuchElementException.class);
        return s.layers.get(l);
    }

    private long support(int p, int l, int i) {
        Layer found = layerOf(p, l);
        need(in(i, 0, found.boxes.size() - 1), NoSuchElementException.class);
        Box box = found.boxes.get(i);
        return supported(stack(p), l, box) * 100 / (box.w * box.d);
    }

    private long told(int p, int what) {
        Stack s = stack(p);
        needArgument(in(what, 0, 5));
        int bits = 0;
        for (Layer l : s.layers) {
            bits |= 1 << l.kind;
        }
        int layers = s.layers.size();
        return new int[] {height(s, layers), weight(s), layers, boxes(List.of(s)), s.stop, bits}[what];
    }

    private long layer(int p, int l, int what) {
        Layer found = layerOf(p, l);
        needArgument(in(what, 0, 3));
        int full = found.boxes.size() == kinds.get(found.kind).pattern.size() ? 1 : 0;
        return new int[] {found.kind, found.boxes.size(), height(stack(p), l), full}[what];
    }

    private long truck(int p, int stop) {
        Stack s = stack(p);
        needArgument(in(stop, 0, 9));
        needState(s.stop < 0 && !s.layers.isEmpty() && truck.stream().noneMatch(t -> t.stop < stop));
        s.stop = stop;
        truck.add(s);
        return truck.size();
    }

    private long unload(int stop) {
        needArgument(in(stop, 0, 9));
        List<Stack> leaving = truck.stream().filter(t -> t.stop == stop).toList();
        if (leaving.isEmpty()) {
            return 0;
        }
        int first = truck.indexOf(leaving.get(0));
        needState(truck.subList(first, truck.size()).stream().allMatch(t -> t.stop == stop));
        truck.removeAll(leaving);
        for (Stack s : leaving) {
            s.stop = -1;
            s.layers.clear();
        }
        return leaving.size();
    }

    private long order(int i) {
        need(in(i, 0, truck.size() - 1), NoSuchElementException.class);
        return truck.get(truck.size() - 1 - i).number;
    }

    private long count(int what) {
        switch (what) {
            case 0: return kinds.size();
            case 1: return stacks.size();
            case 2: return truck.size();
            case 3: return boxes(stacks);
            case 4: return boxes(truck);
            case 5: return lastSteps;
            default: return -1;
        }
    }
}
