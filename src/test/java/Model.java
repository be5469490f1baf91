import java.util.ArrayList;
import java.util.Collections;
import java.util.HashMap;
import java.util.IdentityHashMap;
import java.util.List;
import java.util.Map;
import java.util.Set;

/**
 * The document written down a second time, in other ways than in RootLoom: recursion over nodes, a
 * flow of types over the instructions, a search for each local, and pairs that are objects.
 */
final class Model {
    private static final class Stop extends RuntimeException {
        private static final long serialVersionUID = 1L;
        final int answer;

        Stop(int answer) {
            super(null, null, false, false);
            this.answer = answer;
        }
    }

    private static final class Pair {
        Object left;
        Object right;

        Pair(Object left, Object right) {
            this.left = left;
            this.right = right;
        }
    }

    private static final class Frame {
        final Object[] locals = new Object[8];
        final List<Object> pile = new ArrayList<>();
        int at;

        Object take() {
            return pile.remove(pile.size() - 1);
        }

        int takeInt() {
            return (Integer) take();
        }
    }

    /** What is known before an instruction: types of locals (-1 none, -2 one of several) and of the pile. */
    private static final class Known {
        final int[] locals;
        final List<Integer> pile;

        Known(int[] locals, List<Integer> pile) {
            this.locals = locals.clone();
            this.pile = new ArrayList<>(pile);
        }
    }

    /** NIL, told from an INT by being no Integer. */
    private static final Object NIL = new Object();

    private final int[][] types = new int[8][2];
    private final List<int[]> functions = new ArrayList<>();
    private final List<Integer> bodies = new ArrayList<>();
    private final List<int[]> nodes = new ArrayList<>();
    private int heapWords = 60;
    private int forced = 0;

    /** Operation, operand, and for a NULL its type, which the operand does not tell. */
    private List<int[]> row = null;
    private int[][] laidTypes;
    private int[] starts;
    private int mostValues;
    private int height;
    private Known[] known;

    private boolean hasRun = false;
    private final int[] report = new int[7];
    private List<Integer> printed = new ArrayList<>();
    private Object result;
    private List<Pair> pairs;
    private List<Frame> frames;

    boolean type(int t, int left, int right) {
        if (t < 1 || t > 7 || left < 0 || left > 7 || right < 0 || right > 7) {
            return false;
        }
        types[t] = new int[] {left, right};
        return true;
    }

    int function(int result, int parameters, int... parameterTypes) {
        if (functions.size() == 6 || result < 0 || result > 7 || parameters < 0 || parameters > 3) {
            return -1;
        }
        int[] made = new int[1 + parameters];
        made[0] = result;
        for (int k = 0; k < parameters; k++) {
            if (parameterTypes[k] < 0 || parameterTypes[k] > 7) {
                return -1;
            }
            made[k + 1] = parameterTypes[k];
        }
        functions.add(made);
        bodies.add(-1);
        return functions.size() - 1;
    }

    private boolean expression(int n) {
        return n >= 0 && n < nodes.size() && nodes.get(n)[0] != 13;
    }

    private boolean argument(int n) {
        return n == -1 || n >= 0 && n < nodes.size() && nodes.get(n)[0] == 13;
    }

    private boolean canBe(int kind, int a, int b, int c) {
        boolean ofTwo = expression(a) && expression(b);
        switch (kind) {
            case 0: return true;
            case 1: return a >= 1 && a <= 7;
            case 2: return a >= 0 && a <= 7;
            case 3: case 4: case 5: case 14: case 15: case 17: return ofTwo;
            case 6: return a >= 1 && a <= 7 && expression(b) && expression(c);
            case 7: case 8: case 9: case 16: return expression(a);
            case 10: return ofTwo && expression(c);
            case 11: return a >= 0 && a <= 7 && expression(b) && expression(c);
            case 12: return a >= 0 && a < functions.size() && argument(b);
            case 13: return expression(a) && argument(b);
            default: return false;
        }
    }

    int node(int kind, int a, int b, int c) {
        if (nodes.size() == 150 || !canBe(kind, a, b, c)) {
            return -1;
        }
        nodes.add(new int[] {kind, a, b, c});
        return nodes.size() - 1;
    }

    boolean body(int f, int n) {
        if (f < 0 || f >= functions.size() || n != -1 && !expression(n)) {
            return false;
        }
        bodies.set(f, n);
        return true;
    }

    int lay() {
        hasRun = false;
        row = new ArrayList<>();
        mostValues = 0;
        starts = new int[] {-1, -1, -1, -1, -1, -1};
        try {
            for (int f = 0; f < functions.size(); f++) {
                if (bodies.get(f) != -1) {
                    starts[f] = row.size();
                    height = 0;
                    write(bodies.get(f));
                    step(14, 0, -1);
                }
            }
            for (int f = 0; f < functions.size(); f++) {
                if (bodies.get(f) != -1) {
                    Map<Integer, Integer> scope = new HashMap<>();
                    for (int k = 1; k < functions.get(f).length; k++) {
                        scope.put(k - 1, functions.get(f)[k]);
                    }
                    same(functions.get(f)[0], typeOf(bodies.get(f), scope));
                }
            }
        } catch (Stop stop) {
            row = null;
            return stop.answer;
        }
        laidTypes = new int[8][];
        for (int t = 0; t < 8; t++) {
            laidTypes[t] = types[t].clone();
        }
        flow();
        return row.size();
    }

    /** An instruction more, which makes the pile higher by so much. */
    private int step(int operation, int a, int higher) {
        height += higher;
        mostValues = Math.max(mostValues, height);
        row.add(new int[] {operation, a, 0});
        if (row.size() > 400 || mostValues > 16) {
            throw new Stop(-2);
        }
        return row.size() - 1;
    }

    private void write(int n) {
        int[] node = nodes.get(n);
        int a = node[1];
        int b = node[2];
        int c = node[3];
        switch (node[0]) {
            case 0: step(0, a, 1); break;
            case 1: row.get(step(1, 0, 1))[2] = a; break;
            case 2: step(2, a, 1); break;
            case 3: case 4: case 5: write(a); write(b); step(node[0], 0, -1); break;
            case 6: write(b); write(c); step(6, a, -1); break;
            case 7: case 8: case 9: write(a); step(node[0], 0, 0); break;
            case 10:
                write(a);
                int zero = step(10, 0, -1);
                write(b);
                int jump = step(11, 0, -1);
                row.get(zero)[1] = row.size();
                write(c);
                row.get(jump)[1] = row.size();
                break;
            case 11: write(b); step(12, a, -1); write(c); break;
            case 12:
                int before = height;
                for (int arg = b; arg != -1; arg = nodes.get(arg)[2]) {
                    write(nodes.get(arg)[1]);
                }
                step(13, a, before + 1 - height);
                break;
            case 14: case 15: write(a); write(b); step(node[0] + 1, 0, -1); break;
            case 16: write(a); step(17, 0, 0); break;
            case 17: write(a); step(18, 0, -1); write(b); break;
            default: throw new IllegalStateException();
        }
    }

    private static int same(int want, int got) {
        if (want != got) {
            throw new Stop(-3);
        }
        return got;
    }

    private static int pair(int t) {
        if (t == 0) {
            throw new Stop(-3);
        }
        return t;
    }

    private int typeOf(int n, Map<Integer, Integer> scope) {
        int[] node = nodes.get(n);
        int a = node[1];
        int b = node[2];
        int c = node[3];
        switch (node[0]) {
            case 0: return 0;
            case 1: return a;
            case 2: return local(a, scope);
            case 3: case 4: case 5: same(0, typeOf(a, scope)); return same(0, typeOf(b, scope));
            case 6: same(types[a][0], typeOf(b, scope)); same(types[a][1], typeOf(c, scope)); return a;
            case 7: case 8: return types[pair(typeOf(a, scope))][node[0] - 7];
            case 9: pair(typeOf(a, scope)); return 0;
            case 10: same(0, typeOf(a, scope)); return same(typeOf(b, scope), typeOf(c, scope));
            case 11: return let(a, typeOf(b, scope), c, scope);
            case 12: return call(a, b, scope);
            case 14: case 15: return same(types[pair(typeOf(a, scope))][node[0] - 14], typeOf(b, scope));
            case 16: return same(0, typeOf(a, scope));
            case 17: typeOf(a, scope); return typeOf(b, scope);
            default: throw new IllegalStateException();
        }
    }

    private static int local(int a, Map<Integer, Integer> scope) {
        if (!scope.containsKey(a)) {
            throw new Stop(-3);
        }
        return scope.get(a);
    }

    private int let(int a, int t, int c, Map<Integer, Integer> scope) {
        if (scope.containsKey(a)) {
            throw new Stop(-3);
        }
        Map<Integer, Integer> inner = new HashMap<>(scope);
        inner.put(a, t);
        return typeOf(c, inner);
    }

    private int call(int f, int firstArg, Map<Integer, Integer> scope) {
        int[] called = functions.get(f);
        if (bodies.get(f) == -1) {
            throw new Stop(-3);
        }
        int k = 1;
        for (int arg = firstArg; arg != -1; arg = nodes.get(arg)[2]) {
            if (k == called.length) {
                throw new Stop(-3);
            }
            same(called[k], typeOf(nodes.get(arg)[1], scope));
            k++;
        }
        same(called.length, k);
        return called[0];
    }

    /** All jumps go forward, so each instruction's types are whole when it is come to. */
    private void flow() {
        known = new Known[row.size()];
        for (int f = 0; f < functions.size(); f++) {
            if (starts[f] != -1) {
                int[] locals = {-1, -1, -1, -1, -1, -1, -1, -1};
                System.arraycopy(functions.get(f), 1, locals, 0, functions.get(f).length - 1);
                known[starts[f]] = new Known(locals, Collections.emptyList());
            }
        }
        for (int i = 0; i < row.size(); i++) {
            Known after = new Known(known[i].locals, known[i].pile);
            change(row.get(i), after);
            for (int next : next(i)) {
                meet(next, after);
            }
        }
    }

    private int[] next(int i) {
        switch (row.get(i)[0]) {
            case 10: return new int[] {i + 1, row.get(i)[1]};
            case 11: return new int[] {row.get(i)[1]};
            case 14: return new int[0];
            default: return new int[] {i + 1};
        }
    }

    private void change(int[] instruction, Known k) {
        int operation = instruction[0];
        int a = instruction[1];
        List<Integer> pile = k.pile;
        switch (operation) {
            case 0: pile.add(0); break;
            case 1: pile.add(instruction[2]); break;
            case 2: pile.add(k.locals[a]); break;
            case 3: case 4: case 5: take(pile, 2); pile.add(0); break;
            case 6: take(pile, 2); pile.add(a); break;
            case 7: case 8: pile.add(laidTypes[take(pile, 1)][operation - 7]); break;
            case 9: take(pile, 1); pile.add(0); break;
            case 12: k.locals[a] = take(pile, 1); break;
            case 13: take(pile, functions.get(a).length - 1); pile.add(functions.get(a)[0]); break;
            case 15: case 16: int put = take(pile, 1); take(pile, 1); pile.add(put); break;
            case 17: break;
            case 11: break;
            default: take(pile, 1); break;
        }
    }

    private static int take(List<Integer> pile, int many) {
        int last = 0;
        for (int k = 0; k < many; k++) {
            last = pile.remove(pile.size() - 1);
        }
        return last;
    }

    private void meet(int i, Known after) {
        if (known[i] == null) {
            known[i] = new Known(after.locals, after.pile);
            return;
        }
        for (int k = 0; k < 8; k++) {
            if (known[i].locals[k] != after.locals[k]) {
                known[i].locals[k] = -2;
            }
        }
        for (int k = 0; k < known[i].pile.size(); k++) {
            if (!known[i].pile.get(k).equals(after.pile.get(k))) {
                known[i].pile.set(k, -2);
            }
        }
    }

    int laid(int what) {
        if (row == null) {
            return -1;
        }
        int stops = 0;
        for (int[] instruction : row) {
            stops += instruction[0] == 6 || instruction[0] == 13 ? 1 : 0;
        }
        return what == 0 ? row.size() : what == 1 ? stops : what == 2 ? mostValues : -1;
    }

    /** What is thrown (0 nothing, 1 for the index, 2 for the what), and the answer. */
    int[] instruction(int i, int what) {
        if (row == null || i < 0 || i >= row.size()) {
            return new int[] {1, 0};
        }
        return what < 0 || what > 1 ? new int[] {2, 0} : new int[] {0, row.get(i)[what]};
    }

    int entry(int f) {
        return row == null || f < 0 || f > 5 ? -1 : starts[f];
    }

    int map(int i, int which) {
        if (row == null || i < 0 || i >= row.size() || row.get(i)[0] != 6 && row.get(i)[0] != 13) {
            return -1;
        }
        int bits = 0;
        if (which == 0) {
            for (int local = 0; local < 8; local++) {
                if (matters(i + 1, local, new boolean[row.size()])) {
                    bits |= bit(known[i].locals[local], local);
                }
            }
            return bits;
        }
        if (which == 1) {
            for (int k = 0; k < known[i].pile.size(); k++) {
                bits |= bit(known[i].pile.get(k), k);
            }
            return bits;
        }
        return -1;
    }

    private static int bit(int t, int k) {
        if (t == -1 || t == -2) {
            throw new IllegalStateException("a place of no type, or of two");
        }
        return t == 0 ? 0 : 1 << k;
    }

    private boolean matters(int i, int local, boolean[] seen) {
        if (seen[i]) {
            return false;
        }
        seen[i] = true;
        if (row.get(i)[0] == 2 && row.get(i)[1] == local) {
            return true;
        }
        if (row.get(i)[0] == 12 && row.get(i)[1] == local) {
            return false;
        }
        for (int next : next(i)) {
            if (matters(next, local, seen)) {
                return true;
            }
        }
        return false;
    }

    boolean heap(int words) {
        if (words < 3 || words > 600) {
            return false;
        }
        heapWords = words;
        return true;
    }

    boolean force(int n) {
        if (n < 0) {
            return false;
        }
        forced = n;
        return true;
    }

    int run(int f, int... arguments) {
        if (entry(f) == -1) {
            return -1;
        }
        for (int k = 1; k < functions.get(f).length; k++) {
            if (functions.get(f)[k] != 0) {
                return -1;
            }
        }
        hasRun = true;
        java.util.Arrays.fill(report, 0);
        printed = new ArrayList<>();
        pairs = new ArrayList<>();
        frames = new ArrayList<>();
        Frame first = new Frame();
        first.at = starts[f];
        for (int k = 1; k < functions.get(f).length; k++) {
            first.locals[k - 1] = arguments[k - 1];
        }
        frames.add(first);
        report[5] = 1;
        int numbered = 0;
        while (report[0] == 0) {
            if (report[1] == 6000) {
                report[0] = 5;
                break;
            }
            report[1]++;
            Frame frame = frames.get(frames.size() - 1);
            int[] instruction = row.get(frame.at);
            if (instruction[0] == 6 || instruction[0] == 13) {
                numbered++;
                boolean full = instruction[0] == 6 && pairs.size() * 3 + 3 > heapWords;
                if (full || forced > 0 && numbered % forced == 0) {
                    collect();
                }
            }
            report[0] = obey(frame, instruction[0], instruction[1]);
        }
        report[3] = pairs.size() * 3;
        report[6] = printed.size();
        return report[0];
    }

    private void collect() {
        Set<Object> led = Collections.newSetFromMap(new IdentityHashMap<>());
        List<Object> open = new ArrayList<>();
        for (Frame frame : frames) {
            int localBits = map(frame.at, 0);
            int pileBits = map(frame.at, 1);
            for (int k = 0; k < 8; k++) {
                if ((localBits & 1 << k) != 0) {
                    open.add(frame.locals[k]);
                }
            }
            for (int k = 0; k < frame.pile.size(); k++) {
                if ((pileBits & 1 << k) != 0) {
                    open.add(frame.pile.get(k));
                }
            }
        }
        while (!open.isEmpty()) {
            Object v = open.remove(open.size() - 1);
            if (v instanceof Pair && led.add(v)) {
                open.add(((Pair) v).left);
                open.add(((Pair) v).right);
            } else if (!(v instanceof Pair) && !(v instanceof Integer) && v != NIL) {
                throw new IllegalStateException("a place that holds nothing");
            }
        }
        pairs.removeIf(pair -> !led.contains(pair));
        report[2]++;
        report[4] = pairs.size() * 3;
    }

    /** How the run is over with it, or 0. */
    private int obey(Frame frame, int operation, int a) {
        List<Object> pile = frame.pile;
        if (operation == 13) {
            return enter(frame, a);
        }
        if (operation == 14) {
            return leave(frame);
        }
        frame.at++;
        switch (operation) {
            case 0: pile.add(a); return 0;
            case 1: pile.add(NIL); return 0;
            case 2: pile.add(frame.locals[a]); return 0;
            case 3: pile.add(frame.takeInt() + frame.takeInt()); return 0;
            case 4: pile.add(-frame.takeInt() + frame.takeInt()); return 0;
            case 5: pile.add(frame.takeInt() > frame.takeInt() ? 1 : 0); return 0;
            case 6: return make(frame);
            case 7: case 8: return read(frame, operation == 7);
            case 9: pile.add(frame.take() == NIL ? 1 : 0); return 0;
            case 10: frame.at = frame.takeInt() == 0 ? a : frame.at; return 0;
            case 11: frame.at = a; return 0;
            case 12: frame.locals[a] = frame.take(); return 0;
            case 15: case 16: return put(frame, operation == 15);
            case 17: print((Integer) pile.get(pile.size() - 1)); return 0;
            default: frame.take(); return 0;
        }
    }

    private void print(int v) {
        if (printed.size() < 64) {
            printed.add(v);
        }
    }

    private int enter(Frame frame, int f) {
        if (frames.size() == 24) {
            return 4;
        }
        Frame next = new Frame();
        for (int k = functions.get(f).length - 2; k >= 0; k--) {
            next.locals[k] = frame.take();
        }
        next.at = starts[f];
        frames.add(next);
        report[5] = Math.max(report[5], frames.size());
        return 0;
    }

    private int leave(Frame frame) {
        frames.remove(frames.size() - 1);
        if (frames.isEmpty()) {
            result = frame.take();
            return 1;
        }
        Frame caller = frames.get(frames.size() - 1);
        caller.at++;
        caller.pile.add(frame.take());
        return 0;
    }

    private int make(Frame frame) {
        if (pairs.size() * 3 + 3 > heapWords) {
            return 3;
        }
        Object right = frame.take();
        Object left = frame.take();
        Pair made = new Pair(left, right);
        pairs.add(made);
        frame.pile.add(made);
        return 0;
    }

    /** A pair that has gone must never be come to again. */
    private Pair there(Object v) {
        for (Pair pair : pairs) {
            if (pair == v) {
                return pair;
            }
        }
        throw new IllegalStateException("a pair that has gone is used");
    }

    private int read(Frame frame, boolean left) {
        Object from = frame.take();
        if (from == NIL) {
            return 2;
        }
        frame.pile.add(left ? there(from).left : there(from).right);
        return 0;
    }

    private int put(Frame frame, boolean left) {
        Object v = frame.take();
        Object into = frame.take();
        if (into == NIL) {
            return 2;
        }
        if (left) {
            there(into).left = v;
        } else {
            there(into).right = v;
        }
        frame.pile.add(v);
        return 0;
    }

    int latest(int what) {
        return hasRun && what >= 0 && what <= 6 ? report[what] : -1;
    }

    int out(int i) {
        return hasRun && i >= 0 && i < printed.size() ? printed.get(i) : 0;
    }

    /** What is come to, or null. */
    private Object led(int path, int n) {
        if (!hasRun || report[0] != 1 || n < 0 || n > 20) {
            return null;
        }
        Object at = result;
        for (int k = 0; k < n; k++) {
            if (!(at instanceof Pair)) {
                return null;
            }
            at = (path & 1 << k) != 0 ? there(at).right : there(at).left;
        }
        return at;
    }

    int tell(int path, int n) {
        Object at = led(path, n);
        return at == null ? -1 : at instanceof Integer ? 0 : at == NIL ? 1 : 2;
    }

    int value(int path, int n) {
        Object at = led(path, n);
        return at instanceof Integer ? (Integer) at : 0;
    }
}
