import java.util.ArrayList;
import java.util.List;

/** Long mixed runs of calls, each answer against a model that has objects and no addresses. */
public final class ModelTest {
    private static final int RUNS = 3000;
    private static final int CALLS = 230;

    private long state;

    private ModelTest(long seed) {
        state = seed;
    }

    public static void main(String[] args) {
        for (int run = 0; run < RUNS; run++) {
            new ModelTest(run).play(run);
        }
        Check.end("ModelTest");
    }

    /** A fixed sequence for each run, so that a failure comes again. */
    private int next(int bound) {
        state = state * 6364136223846793005L + 1442695040888963407L;
        return (int) ((state >>> 33) % bound);
    }

    private void play(int run) {
        ThreeCompactors x = new ThreeCompactors();
        Model model = new Model();
        boolean oneSize = run % 2 == 0;
        int size = next(7);
        for (int i = 0; i < CALLS; i++) {
            int[] c = {next(15), root(), root(), next(7), next(3)};
            int fields = oneSize && next(40) != 0 ? size : next(next(20) == 0 ? 9 : 7) - (next(40) == 0 ? 1 : 0);
            int way = next(30) == 0 ? next(2) * 4 - 1 : c[4];
            String what = "run " + run + " call " + i + " " + java.util.Arrays.toString(c) + " " + fields + " " + way;
            Check.same(what, answer(model, c, fields, way), answer(x, c, fields, way));
        }
        Check.same("run " + run + " at its end", model.picture(), picture(x));
    }

    private int root() {
        return next(40) == 0 ? next(2) * 9 - 1 : next(8);
    }

    private static String picture(ThreeCompactors x) {
        StringBuilder text = new StringBuilder();
        for (int r = 0; r < 8; r++) {
            text.append(x.address(r)).append(' ');
        }
        for (int a = 0; a < 256; a++) {
            text.append(x.word(a)).append(' ');
        }
        return text.append(x.top()).append(' ').append(x.objects()).append(' ').append(x.alive()).toString();
    }

    private static Object answer(ThreeCompactors x, int[] c, int fields, int way) {
        try {
            switch (c[0]) {
                case 0: case 1: return x.allocate(c[1], fields);
                case 2: case 3: case 4: return x.claim(c[1], fields, way);
                case 5: return c[3] == 0 ? x.compact(way) : x.top();
                case 6: x.copy(c[1], c[2]); return 0;
                case 7: x.clear(c[1]); return 0;
                case 8: x.put(c[1], c[3], c[2] * 4 - 1); return 0;
                case 9: case 10: x.refer(c[1], c[3], c[2], c[4] == 0); return 0;
                case 11: return x.follow(c[1], c[3], c[2]);
                case 12: return x.kind(c[1], c[3]);
                case 13: return c[4] == 0 ? x.alive() : c[4] == 1 ? x.objects() : x.word(c[3] * 40 - 1);
                default: return c[4] == 0 ? x.serial(c[1]) : x.address(c[1]);
            }
        } catch (RuntimeException e) {
            return e.getClass().getSimpleName();
        }
    }

    private static Object answer(Model m, int[] c, int fields, int way) {
        switch (c[0]) {
            case 0: case 1: return m.allocate(c[1], fields);
            case 2: case 3: case 4: return m.claim(c[1], fields, way);
            case 5: return c[3] == 0 ? m.compact(way) : (Object) m.top();
            case 6: return m.copy(c[1], c[2]);
            case 7: return m.clear(c[1]);
            case 8: return m.put(c[1], c[3], c[2] * 4 - 1);
            case 9: case 10: return m.refer(c[1], c[3], c[2], c[4] == 0);
            case 11: return m.follow(c[1], c[3], c[2]);
            case 12: return m.kind(c[1], c[3]);
            case 13: return c[4] == 0 ? m.alive().size() : c[4] == 1 ? m.heap.size() : m.word(c[3] * 40 - 1);
            default: return c[4] == 0 ? m.serial(c[1]) : m.address(c[1]);
        }
    }

    private static final class Thing {
        private final int serial;
        private final int[] numbers;
        private final int[] kinds;
        private final Thing[] targets;

        private Thing(int serial, int fields) {
            this.serial = serial;
            numbers = new int[fields];
            kinds = new int[fields];
            targets = new Thing[fields];
        }

        private int size() {
            return numbers.length + 2;
        }
    }

    /** Answers an exception's name where the call throws it. */
    private static final class Model {
        private static final String INDEX = "IndexOutOfBoundsException";
        private static final String ARGUMENT = "IllegalArgumentException";
        private static final String STATE = "IllegalStateException";

        private final Thing[] roots = new Thing[8];
        private List<Thing> heap = new ArrayList<>();
        private int made = 0;

        private static boolean noRoot(int r) {
            return r < 0 || r > 7;
        }

        private int top() {
            int sum = 0;
            for (Thing t : heap) {
                sum += t.size();
            }
            return sum;
        }

        private int addressOf(Thing wanted) {
            int sum = 0;
            for (Thing t : heap) {
                if (t == wanted) {
                    return sum;
                }
                sum += t.size();
            }
            return -1;
        }

        private List<Thing> alive() {
            List<Thing> found = new ArrayList<>();
            for (Thing t : roots) {
                enter(t, found);
            }
            return found;
        }

        private static void enter(Thing t, List<Thing> found) {
            if (t == null || found.contains(t)) {
                return;
            }
            found.add(t);
            for (int k = 0; k < t.kinds.length; k++) {
                if (t.kinds[k] == 1) {
                    enter(t.targets[k], found);
                }
            }
        }

        private Object allocate(int r, int fields) {
            if (noRoot(r)) {
                return INDEX;
            }
            if (fields < 0 || fields > 6) {
                return ARGUMENT;
            }
            if (top() + fields + 2 > 256) {
                return STATE;
            }
            roots[r] = new Thing(++made, fields);
            heap.add(roots[r]);
            return made;
        }

        private Object claim(int r, int fields, int way) {
            if (noRoot(r)) {
                return INDEX;
            }
            if (fields < 0 || fields > 6 || way < 0 || way > 2) {
                return ARGUMENT;
            }
            if (top() + fields + 2 > 256) {
                Object answer = compact(way);
                if (answer instanceof String) {
                    return answer;
                }
            }
            return allocate(r, fields);
        }

        private Object compact(int way) {
            if (way < 0 || way > 2) {
                return ARGUMENT;
            }
            if (way == 1) {
                for (Thing t : heap) {
                    if (t.size() != heap.get(0).size()) {
                        return "UnsupportedOperationException";
                    }
                }
            }
            int before = top();
            List<Thing> alive = alive();
            for (Thing t : alive) {
                for (int k = 0; k < t.kinds.length; k++) {
                    if (t.kinds[k] == 2 && !alive.contains(t.targets[k])) {
                        t.targets[k] = null;
                    }
                }
            }
            heap = way == 1 ? twoFingers(alive) : slide(alive);
            return before - top();
        }

        private List<Thing> slide(List<Thing> alive) {
            List<Thing> kept = new ArrayList<>();
            for (Thing t : heap) {
                if (alive.contains(t)) {
                    kept.add(t);
                }
            }
            return kept;
        }

        private List<Thing> twoFingers(List<Thing> alive) {
            List<Thing> others = new ArrayList<>();
            for (int i = heap.size() - 1; i >= alive.size(); i--) {
                if (alive.contains(heap.get(i))) {
                    others.add(heap.get(i));
                }
            }
            List<Thing> places = new ArrayList<>();
            for (int i = 0; i < alive.size(); i++) {
                places.add(alive.contains(heap.get(i)) ? heap.get(i) : others.remove(0));
            }
            return places;
        }

        private Object copy(int r, int q) {
            if (noRoot(r) || noRoot(q)) {
                return INDEX;
            }
            roots[r] = roots[q];
            return 0;
        }

        private Object clear(int r) {
            if (noRoot(r)) {
                return INDEX;
            }
            roots[r] = null;
            return 0;
        }

        private String fieldFault(int r, int q, int k) {
            if (noRoot(r) || noRoot(q)) {
                return INDEX;
            }
            if (roots[r] == null) {
                return "NoSuchElementException";
            }
            return k < 0 || k >= roots[r].kinds.length ? INDEX : null;
        }

        private Object put(int r, int k, int v) {
            String fault = fieldFault(r, 0, k);
            if (fault != null) {
                return fault;
            }
            roots[r].kinds[k] = 0;
            roots[r].numbers[k] = v;
            return 0;
        }

        private Object refer(int r, int k, int q, boolean weak) {
            String fault = fieldFault(r, q, k);
            if (fault != null) {
                return fault;
            }
            roots[r].kinds[k] = weak ? 2 : 1;
            roots[r].targets[k] = roots[q];
            return 0;
        }

        private Object follow(int r, int k, int q) {
            String fault = fieldFault(r, q, k);
            if (fault != null) {
                return fault;
            }
            if (roots[r].kinds[k] == 0) {
                return STATE;
            }
            roots[q] = roots[r].targets[k];
            return roots[q] != null;
        }

        private Object kind(int r, int k) {
            String fault = fieldFault(r, 0, k);
            return fault != null ? fault : (Object) roots[r].kinds[k];
        }

        private Object serial(int r) {
            return noRoot(r) ? INDEX : (Object) (roots[r] == null ? -1 : roots[r].serial);
        }

        private Object address(int r) {
            return noRoot(r) ? INDEX : (Object) addressOf(roots[r]);
        }

        private Object word(int address) {
            return address < 0 || address > 255 ? INDEX : (Object) words().get(address);
        }

        private List<Integer> words() {
            List<Integer> all = new ArrayList<>();
            for (Thing t : heap) {
                int head = t.kinds.length;
                for (int k = 0; k < t.kinds.length; k++) {
                    head += t.kinds[k] == 1 ? 16 << k : t.kinds[k] == 2 ? 1024 << k : 0;
                }
                all.add(head);
                all.add(t.serial);
                for (int k = 0; k < t.kinds.length; k++) {
                    all.add(t.kinds[k] == 0 ? t.numbers[k] : addressOf(t.targets[k]));
                }
            }
            while (all.size() < 256) {
                all.add(0);
            }
            return all;
        }

        private String picture() {
            StringBuilder text = new StringBuilder();
            for (Thing t : roots) {
                text.append(addressOf(t)).append(' ');
            }
            for (int w : words()) {
                text.append(w).append(' ');
            }
            return text.append(top()).append(' ').append(heap.size()).append(' ').append(alive().size()).toString();
        }
    }
}
