import java.util.ArrayList;
import java.util.Arrays;
import java.util.List;

/** Programs made at random, but always the same ones, on RootLoom and on the Model. */
public final class ModelTest {
    private static final Check CHECK = new Check("ModelTest");
    private static final int PROGRAMS = 6000;
    private static final int ENOUGH_WRONG = 20;

    private final Relay loom = new Relay();
    private final Model model = new Model();
    private final int program;
    private long seed;

    private final int[][] types = new int[8][2];
    private final List<int[]> functions = new ArrayList<>();
    private int nodes = 0;

    /** How often each way to be over and each answer of lay was met, so that none is missed. */
    private static final int[] OVERS = new int[6];
    private static final int[] LAYS = new int[4];
    private static int collections = 0;
    private static int keeping = 0;

    private ModelTest(int program) {
        this.program = program;
        this.seed = program * 7919L + 12345;
    }

    public static void main(String[] args) {
        for (int k = 0; k < PROGRAMS && CHECK.wrong() < ENOUGH_WRONG; k++) {
            new ModelTest(k).go();
        }
        System.out.println("over by each way: " + Arrays.toString(OVERS) + ", laid: " + Arrays.toString(LAYS)
                + ", collections: " + collections + ", runs in which some pairs stayed: " + keeping);
        for (int over = 1; over <= 5; over++) {
            CHECK.due("runs over by " + over + " are many", OVERS[over] > 100, true);
        }
        CHECK.due("good programs are many", LAYS[0] > 1000, true);
        CHECK.due("too large ones are many", LAYS[2] > 50, true);
        CHECK.due("ill ones are many", LAYS[3] > 100, true);
        CHECK.due("collections are many", collections > 10000, true);
        CHECK.due("runs in which some pairs stayed are many", keeping > 300, true);
        CHECK.end();
    }

    private int below(int bound) {
        seed = seed * 6364136223846793005L + 1442695040888963407L;
        return (int) ((seed >>> 33) % bound);
    }

    private void due(String call, int got, int want) {
        CHECK.due("program " + program + ": " + call, got, want);
    }

    private void go() {
        boolean wild = program % 5 == 4;
        for (int t = 1; t <= 7; t++) {
            setType(t, below(4) == 0 ? 0 : below(4), below(4));
        }
        int many = 1 + below(6);
        for (int f = 0; f < many; f++) {
            addFunction(f);
        }
        for (int f = 0; f < many; f++) {
            int body = wild ? anything() : bodyFor(f);
            due("body", loom.body(f, body) ? 1 : 0, model.body(f, body) ? 1 : 0);
        }
        layAndRun();
        for (int k = 0; k < 3; k++) {
            meddle();
            layAndRun();
        }
    }

    private void setType(int t, int left, int right) {
        due("type", loom.type(t, left, right) ? 1 : 0, model.type(t, left, right) ? 1 : 0);
        types[t] = new int[] {left, right};
    }

    private void addFunction(int f) {
        int result = below(3) == 0 ? 0 : below(4);
        int parameters = below(4);
        int[] made = {result, below(4) / 3 * below(4), below(2) * below(4), below(2) * below(4)};
        due("function", loom.function(result, parameters, made[1], made[2], made[3]), f);
        due("function of the model", model.function(result, parameters, made[1], made[2], made[3]), f);
        int[] kept = new int[1 + parameters];
        System.arraycopy(made, 0, kept, 0, 1 + parameters);
        functions.add(kept);
    }

    private int[] scopeOf(int f) {
        int[] scope = {-1, -1, -1, -1, -1, -1, -1, -1};
        System.arraycopy(functions.get(f), 1, scope, 0, functions.get(f).length - 1);
        return scope;
    }

    /** Often one that calls on only while its first parameter is above 0, so that runs end, some late. */
    private int bodyFor(int f) {
        int t = functions.get(f)[0];
        int[] scope = scopeOf(f);
        int body = typed(t, scope, 2 + below(4));
        if (scope[0] != 0 || below(4) == 0) {
            return body;
        }
        int more = below(2) == 0 ? body : node(17, call(t, scope, 3), body, 0);
        return node(10, node(5, node(0, 0, 0, 0), node(2, 0, 0, 0), 0), more, leaf(t, scope));
    }

    /** A node on both; where there is none, node 0 stands for it, which may be ill. */
    private int node(int kind, int a, int b, int c) {
        int got = loom.node(kind, a, b, c);
        due("node(" + kind + ", " + a + ", " + b + ", " + c + ")", got, model.node(kind, a, b, c));
        nodes = Math.max(nodes, got + 1);
        return got < 0 ? 0 : got;
    }

    private int leaf(int t, int[] scope) {
        int from = below(8);
        for (int k = 0; k < 8; k++) {
            int local = (from + k) % 8;
            if (scope[local] == t && below(4) != 0) {
                return node(2, local, 0, 0);
            }
        }
        return t == 0 ? node(0, below(12) == 0 ? below(Integer.MAX_VALUE) : below(4), 0, 0) : node(1, t, 0, 0);
    }

    /** A well typed expression of type t, while there are nodes left. */
    private int typed(int t, int[] scope, int depth) {
        if (depth <= 0 || nodes > 120) {
            return leaf(t, scope);
        }
        int pick = below(14);
        if (pick < 3 && t != 0) {
            return pair(t, scope, depth);
        }
        switch (pick) {
            case 0: case 1: case 2: return sum(scope, depth);
            case 3: return half(t, scope, depth);
            case 4: return t == 0 ? node(9, typed(1 + below(3), scope, depth - 1), 0, 0) : leaf(t, scope);
            case 5: case 6: return choose(t, scope, depth);
            case 7: case 8: return let(t, scope, depth);
            case 9: case 10: return call(t, scope, depth);
            case 11: return put(t, scope, depth);
            case 12: return t == 0 ? node(16, typed(0, scope, depth - 1), 0, 0) : half(t, scope, depth);
            default: return node(17, typed(below(4), scope, depth - 1), typed(t, scope, depth - 1), 0);
        }
    }

    private int pair(int t, int[] scope, int depth) {
        return node(6, t, typed(types[t][0], scope, depth - 1), typed(types[t][1], scope, depth - 1));
    }

    private int sum(int[] scope, int depth) {
        return node(3 + below(3), typed(0, scope, depth - 1), typed(0, scope, depth - 1), 0);
    }

    /** LEFT or RIGHT of some pair type that has a t there; most often not of NIL. */
    private int half(int t, int[] scope, int depth) {
        int from = below(7);
        for (int k = 0; k < 14; k++) {
            int p = 1 + (from + k) % 7;
            int side = k / 7;
            if (types[p][side] == t) {
                return node(7 + side, below(3) == 0 ? typed(p, scope, depth - 1) : pair(p, scope, depth - 1), 0, 0);
            }
        }
        return leaf(t, scope);
    }

    private int choose(int t, int[] scope, int depth) {
        int test = below(2) == 0 ? node(5, leaf(0, scope), leaf(0, scope), 0) : typed(0, scope, depth - 1);
        return node(10, test, typed(t, scope, depth - 1), typed(t, scope, depth - 1));
    }

    private int let(int t, int[] scope, int depth) {
        int local = below(8);
        if (scope[local] != -1 && below(30) != 0) {
            return typed(t, scope, depth - 1);
        }
        int bound = below(4);
        int b = typed(bound, scope, depth - 1);
        int[] inner = scope.clone();
        inner[local] = bound;
        return node(11, local, b, typed(t, inner, depth - 1));
    }

    private int call(int t, int[] scope, int depth) {
        int from = below(functions.size());
        for (int k = 0; k < functions.size(); k++) {
            int f = (from + k) % functions.size();
            int[] called = functions.get(f);
            if (called[0] == t) {
                int[] parts = new int[called.length - 1];
                for (int p = 0; p < parts.length; p++) {
                    boolean less = p == 0 && called[1] == 0 && scope[0] == 0 && below(8) != 0;
                    parts[p] = less ? node(4, node(2, 0, 0, 0), node(0, 1, 0, 0), 0)
                            : typed(called[p + 1], scope, depth - 2);
                }
                int arg = -1;
                for (int p = parts.length - 1; p >= 0; p--) {
                    arg = node(13, parts[p], arg, 0);
                }
                return node(12, f, arg, 0);
            }
        }
        return leaf(t, scope);
    }

    private int put(int t, int[] scope, int depth) {
        for (int p = 1; p <= 7; p++) {
            for (int side = 0; side < 2; side++) {
                if (types[p][side] == t && below(3) == 0) {
                    int into = below(3) == 0 ? typed(p, scope, depth - 1) : pair(p, scope, depth - 1);
                    return node(14 + side, into, typed(t, scope, depth - 1), 0);
                }
            }
        }
        return leaf(t, scope);
    }

    /** Nodes of any kind with any parts; the last one that is an expression is the body, most often. */
    private int anything() {
        int last = -1;
        for (int k = 0; k < 12; k++) {
            int got = node(below(20) - 1, below(nodes + 4) - 2, below(nodes + 4) - 2, below(nodes + 4) - 2);
            last = below(2) == 0 ? got : last;
        }
        return last;
    }

    /** One thing or another is changed, as a caller might. */
    private void meddle() {
        int f = below(functions.size());
        switch (below(5)) {
            case 0: setType(1 + below(3), below(4), below(4)); break;
            case 3:
                int large = bodyFor(f);
                for (int k = below(10); k > 0; k--) {
                    large = node(below(6) == 0 ? 3 : 17, large, large, 0);
                }
                due("body", loom.body(f, large) ? 1 : 0, model.body(f, large) ? 1 : 0);
                break;
            case 1:
                int none = below(3) == 0 ? -1 : below(nodes + 1);
                due("body", loom.body(f, none) ? 1 : 0, model.body(f, none) ? 1 : 0);
                break;
            case 2:
                int doubled = node(3 + below(3), below(nodes + 1), below(nodes + 1), 0);
                due("body", loom.body(f, doubled) ? 1 : 0, model.body(f, doubled) ? 1 : 0);
                break;
            default:
                int again = bodyFor(f);
                due("body", loom.body(f, again) ? 1 : 0, model.body(f, again) ? 1 : 0);
                break;
        }
    }

    private void layAndRun() {
        int got = loom.lay();
        due("lay()", got, model.lay());
        LAYS[got < 0 ? -got : 0]++;
        compareLaid();
        int runs = got < 0 ? 1 : 6;
        for (int k = 0; k < runs; k++) {
            int words = below(3) == 0 ? 3 + below(598) : 3 + below(1 + below(30));
            int n = below(3) == 0 ? 0 : 1 + below(6);
            due("heap(" + words + ")", loom.heap(words) ? 1 : 0, model.heap(words) ? 1 : 0);
            due("force(" + n + ")", loom.force(n) ? 1 : 0, model.force(n) ? 1 : 0);
            compareRun(below(functions.size() + 1), below(9), below(5) - 1, below(5));
        }
    }

    private void compareLaid() {
        for (int what = -1; what <= 3; what++) {
            due("laid(" + what + ")", loom.laid(what), model.laid(what));
        }
        for (int f = -1; f <= 6; f++) {
            due("entry(" + f + ")", loom.entry(f), model.entry(f));
        }
        for (int i = -1; i <= Math.max(0, model.laid(0)); i++) {
            for (int what = -1; what <= 2; what++) {
                int[] want = model.instruction(i, what);
                int thrown = 0;
                int got = 0;
                try {
                    got = loom.instruction(i, what);
                } catch (IndexOutOfBoundsException e) {
                    thrown = 1;
                } catch (IllegalArgumentException e) {
                    thrown = 2;
                }
                due("instruction(" + i + ", " + what + ") throws", thrown, want[0]);
                due("instruction(" + i + ", " + what + ")", got, want[1]);
                due("map(" + i + ", " + what + ")", loom.map(i, what), model.map(i, what));
            }
        }
    }

    private void compareRun(int f, int first, int second, int third) {
        String call = "run(" + f + ", " + first + ", " + second + ", " + third + ")";
        int got = loom.run(f, first, second, third);
        due(call, got, model.run(f, first, second, third));
        OVERS[Math.max(0, Math.min(5, got))]++;
        for (int what = -1; what <= 7; what++) {
            due(call + " latest(" + what + ")", loom.latest(what), model.latest(what));
        }
        collections += Math.max(0, model.latest(2));
        keeping += model.latest(4) > 0 && model.latest(4) < model.latest(3) ? 1 : 0;
        for (int i = -1; i <= 65; i++) {
            due(call + " out(" + i + ")", loom.out(i), model.out(i));
        }
        for (int n = -1; n <= 4; n++) {
            for (int path = 0; path < 1 << Math.max(0, n); path++) {
                compareTell(call, path, n);
            }
        }
        for (int k = 0; k < 4; k++) {
            compareTell(call, below(Integer.MAX_VALUE), below(23) - 1);
        }
    }

    private void compareTell(String call, int path, int n) {
        due(call + " tell(" + path + ", " + n + ")", loom.tell(path, n), model.tell(path, n));
        due(call + " value(" + path + ", " + n + ")", loom.value(path, n), model.value(path, n));
    }
}
