import java.util.ArrayList;
import java.util.List;
import java.util.function.Consumer;
import java.util.function.ToIntFunction;

/**
 * "NONE, and nothing happens": a long run of calls, and the same run with one refused call put in at
 * each place of it. The call is refused, and all other answers stay as they were.
 */
public final class RefusalTest {
    private static final Check CHECK = new Check("RefusalTest");
    private static final int MIN = Integer.MIN_VALUE;
    private static final int MAX = Integer.MAX_VALUE;
    private static final int INDEX_THROWN = -1001;
    private static final int ARGUMENT_THROWN = -1002;

    private static final class Call {
        final String name;
        final ToIntFunction<Loom> does;
        final int want;

        Call(String name, ToIntFunction<Loom> does, int want) {
            this.name = name;
            this.does = does;
            this.want = want;
        }
    }

    /** Writes down calls, with no object yet: nodes are numbered as they come. */
    private static final class Script {
        final List<Call> calls = new ArrayList<>();
        private int nodes = 0;

        void add(String name, int want, ToIntFunction<Loom> does) {
            calls.add(new Call(name, does, want));
        }

        int node(int kind, int a, int b, int c) {
            int made = nodes;
            add("node " + made, made, x -> x.node(kind, a, b, c));
            nodes++;
            return made;
        }

        void function(int number, int result, int parameters, int first) {
            add("function " + number, number, x -> x.function(result, parameters, first, 9, 9));
        }

        void body(int f, int n) {
            add("body(" + f + ", " + n + ")", 1, x -> x.body(f, n) ? 1 : 0);
        }

        void lay(int want) {
            add("lay()", want, Loom::lay);
        }

        void run(int f, int first, int want) {
            add("run(" + f + ", " + first + ")", want, x -> x.run(f, first, 0, 0));
        }

        void heap(int words) {
            add("heap(" + words + ")", 1, x -> x.heap(words) ? 1 : 0);
        }

        void force(int n) {
            add("force(" + n + ")", 1, x -> x.force(n) ? 1 : 0);
        }

        void latest(int... want) {
            for (int k = 0; k < want.length; k++) {
                int what = k;
                add("latest(" + what + ")", want[k], x -> x.latest(what));
            }
        }

        /** What was put out first, and the RESULT: what it is, and its first two INTs. */
        void seen(int out, int tell, int first, int second) {
            add("out(0)", out, x -> x.out(0));
            add("tell(0, 0)", tell, x -> x.tell(0, 0));
            add("value(0, 1)", first, x -> x.value(0, 1));
            add("value(1, 2)", second, x -> x.value(1, 2));
        }
    }

    public static void main(String[] args) {
        List<Call> script = script();
        CHECK.sentence("4: NONE, and nothing happens, if that is not so");
        answers("the run alone", script);
        List<Call> refused = refused();
        // The last two calls make a function and a node that are refused as parts before.
        for (int at = 0; at <= script.size() - 2 && CHECK.wrong() < 50; at++) {
            for (Call call : refused) {
                withCall(script, at, call);
            }
        }
        CHECK.sentence("Nothing is promised beyond the answers and state changes described above",
                "questions change nothing");
        for (int at = 0; at <= script.size(); at++) {
            List<Call> longer = new ArrayList<>(script);
            longer.addAll(at, questions());
            answers("questions put in at " + at, longer);
        }
        fullOfFunctions();
        fullOfNodes();
        CHECK.end();
    }

    private static int answerOf(Call call, Loom x) {
        try {
            return call.does.applyAsInt(x);
        } catch (IndexOutOfBoundsException e) {
            return INDEX_THROWN;
        } catch (IllegalArgumentException e) {
            return ARGUMENT_THROWN;
        }
    }

    /** MIN as what is due: any answer will do. */
    private static void answers(String name, List<Call> calls) {
        Loom x = new Loom();
        for (Call call : calls) {
            int got = answerOf(call, x);
            if (call.want != MIN && got != call.want) {
                CHECK.due(name + ": " + call.name, got, call.want);
                return;
            }
        }
        CHECK.due(name, 0, 0);
    }

    private static void withCall(List<Call> script, int at, Call call) {
        List<Call> longer = new ArrayList<>(script);
        longer.add(at, call);
        answers(call.name + " put in before call " + at, longer);
    }

    /**
     * Type 1 is (INT, 1), 2 is (1, INT). Function 0 makes a list from an INT, 1 takes a list, 2 never has
     * a BODY, 3 is over by NIL, 4 calls itself twice; there is never a 5.
     */
    private static List<Call> script() {
        Script s = new Script();
        s.add("type(1, 0, 1)", 1, x -> x.type(1, 0, 1) ? 1 : 0);
        s.add("type(2, 1, 0)", 1, x -> x.type(2, 1, 0) ? 1 : 0);
        s.function(0, 1, 1, 0);
        s.function(1, 0, 1, 1);
        s.function(2, 0, 0, 9);
        s.function(3, 0, 0, 9);
        s.function(4, 0, 1, 0);
        int n = s.node(2, 0, 0, 0);
        int arg = s.node(13, n, -1, 0);
        int one = s.node(0, 1, 0, 0);
        int nil = s.node(1, 1, 0, 0);
        int less = s.node(4, n, one, 0);
        int lessArg = s.node(13, less, -1, 0);
        int lost = s.node(6, 1, one, nil);
        int made = s.node(6, 1, s.node(16, n, 0, 0), s.node(12, 0, lessArg, 0));
        s.body(0, s.node(10, n, s.node(17, lost, made, 0), nil));
        s.body(1, s.node(7, n, 0, 0));
        int two = s.node(1, 2, 0, 0);
        int byNil = s.node(3, s.node(8, two, 0, 0), s.node(7, s.node(7, two, 0, 0), 0, 0), 0);
        s.body(3, byNil);
        int twice = s.node(12, 4, lessArg, 0);
        s.body(4, s.node(10, n, s.node(3, twice, twice, 0), one));
        int ill = s.node(12, 1, -1, 0);
        int huge = one;
        for (int k = 0; k < 9; k++) {
            huge = s.node(3, huge, huge, 0);
        }
        s.node(12, 4, arg, 0);
        layAndRun(s);
        s.body(3, ill);
        s.lay(-3);
        s.latest(-1);
        s.run(0, 2, -1);
        s.body(3, huge);
        s.lay(-2);
        s.add("laid(0)", -1, x -> x.laid(0));
        s.run(0, 2, -1);
        s.body(3, byNil);
        s.lay(40);
        s.run(0, 3, 1);
        s.latest(1, 49, 3, 9, 6, 4, 3);
        s.seen(3, 2, 3, 2);
        s.calls.addAll(wanted());
        return s.calls;
    }

    private static void layAndRun(Script s) {
        s.lay(40);
        s.heap(30);
        s.force(2);
        s.run(0, 3, 1);
        s.latest(1, 49, 4, 9, 3, 4, 3);
        s.seen(3, 2, 3, 2);
        s.run(3, 0, 2);
        s.latest(2, 2, 0, 0, 0, 1, 0);
        s.seen(0, -1, 0, 0);
        s.heap(6);
        s.run(0, 3, 3);
        s.latest(3, 47, 5, 6, 6, 4, 3);
        s.heap(600);
        s.force(0);
        s.run(0, 30, 4);
        s.latest(4, 288, 0, 72, 0, 24, 24);
        s.seen(30, -1, 0, 0);
        s.run(4, 20, 5);
        s.latest(5, 6000, 0, 0, 0, 21, 0);
        s.lay(40);
        s.latest(-1, -1, -1, -1, -1, -1, -1);
        s.force(3);
        s.heap(12);
    }

    /** At the end of the run: what is laid down, and what can still be written. */
    private static List<Call> wanted() {
        Script s = new Script();
        for (int what = 0; what <= 2; what++) {
            int w = what;
            s.add("laid(" + w + ")", new int[] {40, 5, 3}[w], x -> x.laid(w));
        }
        int[] entries = {0, 16, -1, 19, 26};
        for (int k = 0; k < entries.length; k++) {
            int f = k;
            s.add("entry(" + f + ")", entries[f], x -> x.entry(f));
        }
        s.add("the next function", 5, x -> x.function(0, 0, 0, 0, 0));
        s.add("the next node", 32, x -> x.node(0, 5, 0, 0));
        return s.calls;
    }

    private static List<Call> refused() {
        Script s = new Script();
        refusedWriting(s);
        refusedNodes(s);
        refusedRunning(s);
        refusedQuestions(s);
        return s.calls;
    }

    private static void refusedWriting(Script s) {
        int[][] types = {{0, 0, 0}, {8, 0, 0}, {-1, 0, 0}, {MIN, 1, 1}, {MAX, 1, 1}, {1, 8, 0}, {1, -1, 0}, {1, 0, 8},
            {1, 1, -1}, {2, 8, 8}, {2, MAX, 0}, {2, 0, MIN}};
        for (int[] t : types) {
            s.add("type" + java.util.Arrays.toString(t), 0, x -> x.type(t[0], t[1], t[2]) ? 1 : 0);
        }
        int[][] functions = {{-1, 0, 0, 0, 0}, {8, 0, 0, 0, 0}, {0, -1, 0, 0, 0}, {0, 4, 0, 0, 0}, {0, MAX, 0, 0, 0},
            {0, 1, 8, 0, 0}, {0, 1, -1, 0, 0}, {0, 2, 0, 8, 0}, {0, 2, 0, -1, 0}, {0, 3, 0, 0, 8}, {0, 3, 0, 0, -1}};
        for (int[] f : functions) {
            s.add("function" + java.util.Arrays.toString(f), -1, x -> x.function(f[0], f[1], f[2], f[3], f[4]));
        }
        // Node 1 is an ARG as soon as it is there; there is never a function 5 or a node 149.
        int[][] bodies = {{0, 1}, {0, -2}, {0, 149}, {0, 150}, {3, 1}, {4, MAX}, {1, MIN}, {5, 0}, {5, -1}, {6, -1},
            {-1, 0}, {-1, -1}, {MAX, 0}, {MIN, -1}};
        for (int[] b : bodies) {
            s.add("body" + java.util.Arrays.toString(b), 0, x -> x.body(b[0], b[1]) ? 1 : 0);
        }
    }

    private static void refusedNodes(Script s) {
        int[][] nodes = {{-1, 0, 0, 0}, {18, 0, 0, 0}, {MIN, 0, 0, 0}, {MAX, 0, 0, 0},
            {1, 0, 0, 0}, {1, 8, 0, 0}, {1, -1, 0, 0}, {2, -1, 0, 0}, {2, 8, 0, 0},
            {3, 1, 0, 0}, {3, 0, 1, 0}, {3, -1, 0, 0}, {3, 0, -1, 0}, {4, 149, 0, 0}, {5, 0, 149, 0},
            {6, 0, 0, 0}, {6, 8, 0, 0}, {6, 1, 1, 0}, {6, 1, 0, 1}, {6, 1, -1, 0}, {6, 1, 0, -1},
            {7, 1, 0, 0}, {8, 1, 0, 0}, {9, 1, 0, 0}, {7, -1, 0, 0}, {8, 149, 0, 0}, {9, -1, 0, 0},
            {10, 1, 0, 0}, {10, 0, 1, 0}, {10, 0, 0, 1}, {10, -1, 0, 0}, {10, 0, -1, 0}, {10, 0, 0, -1},
            {11, -1, 0, 0}, {11, 8, 0, 0}, {11, 3, 1, 0}, {11, 3, 0, 1}, {11, 3, -1, 0}, {11, 3, 0, -1},
            {12, -1, -1, 0}, {12, 5, -1, 0}, {12, 6, -1, 0}, {12, 0, 0, 0}, {12, 0, -2, 0}, {12, 0, 149, 0},
            {13, 1, -1, 0}, {13, -1, -1, 0}, {13, 0, 0, 0}, {13, 0, -2, 0}, {13, 149, -1, 0},
            {14, 1, 0, 0}, {14, 0, 1, 0}, {15, -1, 0, 0}, {15, 0, -1, 0}, {16, 1, 0, 0}, {16, -1, 0, 0},
            {17, 1, 0, 0}, {17, 0, 1, 0}, {17, -1, 0, 0}, {17, 0, -1, 0}};
        for (int[] n : nodes) {
            s.add("node" + java.util.Arrays.toString(n), -1, x -> x.node(n[0], n[1], n[2], n[3]));
        }
    }

    private static void refusedRunning(Script s) {
        for (int words : new int[] {2, 0, -3, 601, MAX, MIN}) {
            s.add("heap(" + words + ")", 0, x -> x.heap(words) ? 1 : 0);
        }
        for (int n : new int[] {-1, -2, MIN}) {
            s.add("force(" + n + ")", 0, x -> x.force(n) ? 1 : 0);
        }
        // Function 1 takes a pair, 2 has no BODY.
        for (int f : new int[] {1, 2, 5, 6, -1, MAX, MIN}) {
            s.add("run(" + f + ")", -1, x -> x.run(f, 1, 1, 1));
        }
    }

    private static void refusedQuestions(Script s) {
        for (int what : new int[] {-1, 3, MAX, MIN}) {
            s.add("laid(" + what + ")", -1, x -> x.laid(what));
        }
        for (int f : new int[] {-1, 2, 5, 6, MAX, MIN}) {
            s.add("entry(" + f + ")", -1, x -> x.entry(f));
        }
        for (int i : new int[] {-1, 400, MAX, MIN}) {
            s.add("instruction(" + i + ", 0)", INDEX_THROWN, x -> x.instruction(i, 0));
            s.add("map(" + i + ", 0)", -1, x -> x.map(i, 0));
        }
        for (int which : new int[] {-1, 2, MAX, MIN}) {
            s.add("map(5, " + which + ")", -1, x -> x.map(5, which));
        }
        for (int what : new int[] {-1, 7, MAX, MIN}) {
            s.add("latest(" + what + ")", -1, x -> x.latest(what));
        }
        for (int i : new int[] {-1, 64, MAX, MIN}) {
            s.add("out(" + i + ")", 0, x -> x.out(i));
        }
        for (int n : new int[] {-1, 21, MAX, MIN}) {
            s.add("tell(0, " + n + ")", -1, x -> x.tell(0, n));
            s.add("value(0, " + n + ")", 0, x -> x.value(0, n));
        }
    }

    private static List<Call> questions() {
        Script s = new Script();
        for (int k = 0; k <= 40; k++) {
            int i = k;
            s.add("instruction(" + i + ", 0)", MIN, x -> x.instruction(i, 0));
            s.add("map(" + i + ", 1)", MIN, x -> x.map(i, 1));
            s.add("out(" + i + ")", MIN, x -> x.out(i));
            s.add("tell(" + i + ", 3)", MIN, x -> x.tell(i, 3));
            s.add("value(" + i + ", 2)", MIN, x -> x.value(i, 2));
            s.add("latest(" + i + ")", MIN, x -> x.latest(i));
        }
        for (int k = 0; k <= 6; k++) {
            int i = k;
            s.add("entry(" + i + ")", MIN, x -> x.entry(i));
            s.add("laid(" + i + ")", MIN, x -> x.laid(i));
            s.add("instruction(0, " + i + ")", MIN, x -> x.instruction(0, i));
            s.add("map(5, " + i + ")", MIN, x -> x.map(5, i));
        }
        return s.calls;
    }

    private static void same(String name, Consumer<Loom> before, ToIntFunction<Loom> call, int want,
            List<ToIntFunction<Loom>> after) {
        Loom with = new Loom();
        Loom without = new Loom();
        before.accept(with);
        before.accept(without);
        CHECK.due(name, call.applyAsInt(with), want);
        for (int k = 0; k < after.size(); k++) {
            CHECK.due(name + ", question " + k + " behind it", after.get(k).applyAsInt(with),
                    after.get(k).applyAsInt(without));
        }
    }

    private static void fullOfFunctions() {
        CHECK.sentence("3: NONE if there are 6");
        Consumer<Loom> six = x -> {
            x.type(1, 0, 1);
            int n = x.node(2, 1, 0, 0);
            for (int f = 0; f < 6; f++) {
                x.function(0, 2, 0, 0, 9);
                x.body(f, n);
            }
            x.lay();
            x.run(5, 7, 8, 9);
        };
        List<ToIntFunction<Loom>> after = List.of(x -> x.value(0, 0), x -> x.laid(0), x -> x.run(5, 1, 2, 3),
                x -> x.value(0, 0), Loom::lay, x -> x.run(0, 1, 2, 3), x -> x.value(0, 0), x -> x.run(5, 4, 5, 6),
                x -> x.value(0, 0), x -> x.node(12, 5, -1, 0), x -> x.node(12, 6, -1, 0), x -> x.body(6, -1) ? 1 : 0);
        same("a seventh like the others", six, x -> x.function(0, 2, 0, 0, 9), -1, after);
        same("a seventh of another kind", six, x -> x.function(1, 1, 1, 1, 1), -1, after);
        same("a seventh that can't be", six, x -> x.function(8, 4, 8, 8, 8), -1, after);
    }

    private static void fullOfNodes() {
        CHECK.sentence("4: NONE, and nothing happens, if ... or there are 150");
        Consumer<Loom> full = x -> {
            x.function(0, 1, 0, 0, 0);
            x.node(2, 0, 0, 0);
            for (int k = 1; k < 150; k++) {
                x.node(16, k - 1, 0, 0);
            }
            x.body(0, 149);
            x.lay();
            x.run(0, 6, 0, 0);
        };
        List<ToIntFunction<Loom>> after = List.of(x -> x.value(0, 0), x -> x.latest(6), x -> x.latest(1), Loom::lay,
                x -> x.run(0, 9, 0, 0), x -> x.latest(1), x -> x.value(0, 0), x -> x.body(0, 150) ? 1 : 0,
                x -> x.body(0, 0) ? 1 : 0, Loom::lay, x -> x.run(0, 4, 0, 0), x -> x.value(0, 0));
        same("a NUMBER more", full, x -> x.node(0, 1, 0, 0), -1, after);
        same("an OUT more", full, x -> x.node(16, 149, 0, 0), -1, after);
        same("an ARG more", full, x -> x.node(13, 0, -1, 0), -1, after);
        same("a node that can't be", full, x -> x.node(16, 150, 0, 0), -1, after);
    }
}
