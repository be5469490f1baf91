/** 'Terms': types, functions, locals, nodes, and what each kind of node is laid down as. */
public final class NodeTermsTest {
    private static final Check CHECK = new Check("NodeTermsTest");
    private static final int MIN = Integer.MIN_VALUE;
    private static final int MAX = Integer.MAX_VALUE;

    public static void main(String[] args) {
        lastCall();
        typesAtFirst();
        pairOrNil();
        sixFunctions();
        parameters();
        noBodyAtFirst();
        locals();
        parametersAreTheFirstLocals();
        mostNodes();
        expressionsButArg();
        numbers();
        nils();
        typesOfLocals();
        sums();
        wrapAround();
        less();
        pairParts();
        halves();
        empty();
        choices();
        lets();
        callsWithoutArgs();
        argsFromTheFirstOn();
        puts();
        outs();
        thens();
        CHECK.end();
    }

    /** Functions 0 to 3 answer types 0 to 3; 1 is (INT, 1), 2 is (1, INT), 3 is (2, 1). */
    private static Loom fresh() {
        Loom x = new Loom();
        x.type(1, 0, 1);
        x.type(2, 1, 0);
        x.type(3, 2, 1);
        for (int f = 0; f < 4; f++) {
            x.function(f, 0, 0, 0, 0);
        }
        return x;
    }

    private static int layAlone(Loom x, int f, int body) {
        x.body(f, body);
        int laid = x.lay();
        x.body(f, -1);
        return laid;
    }

    /** An expression of the type t, and of no other. */
    private static void hasType(String name, Loom x, int body, int t) {
        for (int f = 0; f < 4; f++) {
            CHECK.due(name + " for a result of type " + f, layAlone(x, f, body) > 0, f == t);
        }
    }

    private static void isIll(String name, Loom x, int body) {
        for (int f = 0; f < 4; f++) {
            CHECK.due(name + " for a result of type " + f, layAlone(x, f, body), RootLoom.ILL);
        }
    }

    /** The body of function f alone, laid down: its operations, each with its a, and then the RET. */
    private static void row(String name, Loom x, int f, int body, int... want) {
        CHECK.due(name + ": lay()", layAlone(x, f, body), want.length / 2 + 1);
        for (int i = 0; i < want.length / 2; i++) {
            CHECK.due(name + ": instruction(" + i + ", 0)", x.instruction(i, 0), want[2 * i]);
            CHECK.due(name + ": instruction(" + i + ", 1)", x.instruction(i, 1), want[2 * i + 1]);
        }
        CHECK.due(name + ": RET", x.instruction(want.length / 2, 0), 14);
        CHECK.due(name + ": RET has no a", x.instruction(want.length / 2, 1), 0);
    }

    private static int valueOf(Loom x, int body) {
        layAlone(x, 0, body);
        CHECK.due("run(0)", x.run(0, 0, 0, 0), 1);
        return x.value(0, 0);
    }

    private static void lastCall() {
        CHECK.sentence("An object is used for at most 512 calls after it has been made; "
                + "what later calls answer is free");
        Loom x = fresh();
        x.body(0, new Pen(x).number(77));
        while (x.callsLeft() > 4) {
            CHECK.due("one refused call of many", x.node(18, 0, 0, 0), -1);
        }
        CHECK.due("call 509", x.lay(), 2);
        CHECK.due("call 510", x.run(0, 0, 0, 0), 1);
        CHECK.due("call 511", x.latest(1), 2);
        CHECK.due("call 512", x.value(0, 0), 77);
        Loom y = fresh();
        int body = new Pen(y).list(1, 2, 3);
        y.body(1, body);
        y.force(1);
        y.heap(9);
        while (y.callsLeft() > 1) {
            CHECK.due("lay() again and again", y.lay(), 8);
            if (y.callsLeft() > 1) {
                CHECK.due("run() again and again", y.run(1, 0, 0, 0), 1);
            }
        }
        CHECK.due("call 512 is a run", y.run(1, 0, 0, 0), 1);
    }

    private static void typesAtFirst() {
        CHECK.sentence("TYPES are 0, INT, and 1 .. 7, each of pairs with a LEFT and a RIGHT type (both INT at first)");
        Loom x = new Loom();
        Pen pen = new Pen(x);
        x.function(0, 0, 0, 0, 0);
        int one = pen.number(1);
        for (int t = 1; t <= 7; t++) {
            int nil = pen.nil(t);
            CHECK.due("LEFT of " + t + " is INT", layAlone(x, 0, pen.left(nil)), 3);
            CHECK.due("RIGHT of " + t + " is INT", layAlone(x, 0, pen.right(nil)), 3);
            CHECK.due("PAIR of " + t + " takes INTs", layAlone(x, 0, pen.empty(pen.pair(t, one, one))), 5);
            CHECK.due("PAIR of " + t + " takes no 1 in front",
                    layAlone(x, 0, pen.empty(pen.pair(t, pen.nil(1), one))), RootLoom.ILL);
        }
        CHECK.due("there is no type 8", x.node(1, 8, 0, 0), -1);
        CHECK.due("0 is no pair type", x.node(1, 0, 0, 0), -1);
    }

    private static void pairOrNil() {
        CHECK.sentence("a value of such a type is a PAIR of it, or NIL");
        Loom x = fresh();
        Pen pen = new Pen(x);
        hasType("NIL of 1", x, pen.nil(1), 1);
        hasType("PAIR of 1", x, pen.pair(1, pen.number(1), pen.nil(1)), 1);
        layAlone(x, 1, pen.nil(1));
        x.run(1, 0, 0, 0);
        CHECK.due("NIL is told", x.tell(0, 0), 1);
        layAlone(x, 1, pen.list(1));
        x.run(1, 0, 0, 0);
        CHECK.due("a PAIR is told", x.tell(0, 0), 2);
    }

    private static void sixFunctions() {
        CHECK.sentence("FUNCTIONS are 0 .. 5, in the order in which they are made");
        Loom x = new Loom();
        Pen pen = new Pen(x);
        for (int f = 0; f < 6; f++) {
            CHECK.due("node of function " + f + " that is not there", x.node(12, f, -1, 0), -1);
            CHECK.due("function " + f, x.function(0, 0, 0, 0, 0), f);
        }
        CHECK.due("there is no seventh", x.function(0, 0, 0, 0, 0), -1);
        CHECK.due("function 6 is not there", x.node(12, 6, -1, 0), -1);
        for (int f = 5; f >= 0; f--) {
            CHECK.due("body of " + f, x.body(f, pen.number(100 + f)), true);
        }
        CHECK.due("lay()", x.lay(), 12);
        for (int f = 0; f < 6; f++) {
            CHECK.due("entry(" + f + ")", x.entry(f), 2 * f);
            CHECK.due("run(" + f + ")", x.run(f, 0, 0, 0), 1);
            CHECK.due("value of " + f, x.value(0, 0), 100 + f);
        }
    }

    private static void parameters() {
        CHECK.sentence("each has the type of its result, 0 to 3 parameters with types");
        Loom x = new Loom();
        CHECK.due("-1 parameters", x.function(0, -1, 0, 0, 0), -1);
        CHECK.due("0 parameters", x.function(0, 0, 0, 0, 0), 0);
        CHECK.due("3 parameters", x.function(0, 3, 0, 0, 0), 1);
        CHECK.due("4 parameters", x.function(0, 4, 0, 0, 0), -1);
        CHECK.due("a result of type 7, parameters of type 7", x.function(7, 3, 7, 7, 7), 2);
        CHECK.due("a result of type 8", x.function(8, 0, 0, 0, 0), -1);
        CHECK.due("a result of type -1", x.function(-1, 0, 0, 0, 0), -1);
        Pen pen = new Pen(x);
        int third = pen.local(2);
        x.body(1, third);
        x.body(2, third);
        CHECK.due("the third of each has its type", x.lay(), 4);
        CHECK.due("run(1)", x.run(1, 5, 6, 7), 1);
        CHECK.due("its third", x.value(0, 0), 7);
    }

    private static void noBodyAtFirst() {
        CHECK.sentence("and a BODY, an expression (none at first)");
        Loom x = new Loom();
        Pen pen = new Pen(x);
        x.function(0, 0, 0, 0, 0);
        CHECK.due("lay()", x.lay(), 0);
        CHECK.due("entry(0)", x.entry(0), -1);
        CHECK.due("run(0)", x.run(0, 0, 0, 0), -1);
        int f = x.function(0, 0, 0, 0, 0);
        x.body(f, pen.call(0));
        CHECK.due("a CALL of it", x.lay(), RootLoom.ILL);
        CHECK.due("a BODY", x.body(0, pen.number(1)), true);
        CHECK.due("a CALL of it then", x.lay(), 4);
    }

    private static void locals() {
        CHECK.sentence("A function's LOCALS are 0 .. 7");
        Loom x = fresh();
        Pen pen = new Pen(x);
        CHECK.due("LOCAL -1", x.node(2, -1, 0, 0), -1);
        CHECK.due("LOCAL 8", x.node(2, 8, 0, 0), -1);
        int five = pen.number(5);
        CHECK.due("LET -1", x.node(11, -1, five, five), -1);
        CHECK.due("LET 8", x.node(11, 8, five, five), -1);
        for (int local = 0; local <= 7; local++) {
            int let = pen.let(local, five, pen.local(local));
            row("local " + local, x, 0, let, 0, 5, 12, local, 2, local);
            CHECK.due("local " + local + " holds", valueOf(x, let), 5);
        }
        int digits = pen.local(0);
        for (int local = 1; local <= 7; local++) {
            digits = pen.sub(pen.local(local), digits);
        }
        int nest = digits;
        for (int local = 7; local >= 0; local--) {
            nest = pen.let(local, pen.number(1 << local), nest);
        }
        CHECK.due("all eight at once", valueOf(x, nest), 128 - 64 + 32 - 16 + 8 - 4 + 2 - 1);
    }

    private static void parametersAreTheFirstLocals() {
        CHECK.sentence("its parameters the first of them");
        for (int many = 0; many <= 3; many++) {
            Loom x = new Loom();
            Pen pen = new Pen(x);
            x.function(0, many, 0, 0, 0);
            int one = pen.number(1);
            for (int local = 0; local <= 7; local++) {
                boolean given = local < many;
                String name = local + " of " + many + " parameters";
                CHECK.due("LOCAL " + name, layAlone(x, 0, pen.local(local)), given ? 2 : RootLoom.ILL);
                CHECK.due("LET " + name, layAlone(x, 0, pen.let(local, one, one)), given ? RootLoom.ILL : 4);
                if (given) {
                    layAlone(x, 0, pen.local(local));
                    CHECK.due("run with " + name, x.run(0, 10, 20, 30), 1);
                    CHECK.due("argument " + name, x.value(0, 0), 10 * (local + 1));
                }
            }
        }
    }

    private static void mostNodes() {
        CHECK.sentence("NODES are 0, 1, .., 149 at most");
        Loom x = new Loom();
        x.function(0, 0, 0, 0, 0);
        CHECK.due("node 0", x.node(0, 1, 0, 0), 0);
        for (int k = 1; k < 150; k++) {
            CHECK.due("node " + k, x.node(16, k - 1, 0, 0), k);
        }
        CHECK.due("node 150", x.node(0, 1, 0, 0), -1);
        CHECK.due("node 150, of another kind", x.node(16, 149, 0, 0), -1);
        CHECK.due("node 149 is a body", x.body(0, 149), true);
        CHECK.due("node 150 is none", x.body(0, 150), false);
        CHECK.due("all are laid down", x.lay(), 151);
        CHECK.due("and run", x.run(0, 0, 0, 0), 1);
        CHECK.due("all PUTs are done", x.latest(1), 151);
    }

    private static void expressionsButArg() {
        CHECK.sentence("All are EXPRESSIONS but ARG");
        Loom x = fresh();
        int zero = x.node(0, 0, 0, 0);
        int arg = x.node(13, zero, -1, 0);
        for (int kind = 0; kind <= 17; kind++) {
            // A part that is a type, a local or a function is 1 here, and node 0 is an expression.
            boolean first = kind == 1 || kind == 2 || kind == 6 || kind == 11 || kind == 12;
            int made = x.node(kind, first ? 1 : zero, kind == 12 || kind == 13 ? -1 : zero, zero);
            CHECK.due("a node of kind " + kind, made > 0, true);
            CHECK.due("a body of kind " + kind, x.body(0, made), kind != 13);
            CHECK.due("OUT of kind " + kind, x.node(16, made, 0, 0) >= 0, kind != 13);
            CHECK.due("ARG of kind " + kind, x.node(13, made, arg, 0) >= 0, kind != 13);
            CHECK.due("ARG in front of kind " + kind, x.node(13, zero, made, 0) >= 0, kind == 13);
            CHECK.due("CALL with kind " + kind, x.node(12, 0, made, 0) >= 0, kind == 13);
        }
    }

    private static void numbers() {
        CHECK.sentence("What they are, what they make when LAID DOWN, and their type: 0 NUMBER a: PUSH a: INT");
        Loom x = fresh();
        Pen pen = new Pen(x);
        for (int a : new int[] {0, 1, -1, -2, -3, MIN, MAX}) {
            row("NUMBER " + a, x, 0, pen.number(a), 0, a);
            CHECK.due("value " + a, valueOf(x, pen.number(a)), a);
        }
        hasType("NUMBER", x, pen.number(1), 0);
    }

    private static void nils() {
        CHECK.sentence("1 NIL a: NULL: type a");
        Loom x = fresh();
        Pen pen = new Pen(x);
        for (int t = 1; t <= 3; t++) {
            hasType("NIL " + t, x, pen.nil(t), t);
            row("NIL " + t, x, t, pen.nil(t), 1, 0);
        }
        int seventh = x.function(7, 0, 0, 0, 0);
        row("NIL 7", x, seventh, pen.nil(7), 1, 0);
    }

    private static void typesOfLocals() {
        CHECK.sentence("2 LOCAL a: LOAD a: that of the local");
        for (int t = 0; t <= 7; t++) {
            for (int result = 0; result <= 7; result++) {
                Loom x = new Loom();
                Pen pen = new Pen(x);
                x.function(result, 3, t, 7 - t, t);
                boolean first = result == t;
                boolean second = result == 7 - t;
                CHECK.due("a first " + t + " for a " + result, layAlone(x, 0, pen.local(0)), first ? 2 : RootLoom.ILL);
                CHECK.due("a second " + (7 - t) + " for a " + result, layAlone(x, 0, pen.local(1)),
                        second ? 2 : RootLoom.ILL);
                CHECK.due("a third " + t + " for a " + result, layAlone(x, 0, pen.local(2)), first ? 2 : RootLoom.ILL);
                if (first) {
                    CHECK.due("LOAD", x.instruction(0, 0), 2);
                    CHECK.due("of local 2", x.instruction(0, 1), 2);
                }
            }
        }
    }

    private static void sums() {
        CHECK.sentence("3 ADD a b, 4 SUB, 5 LESS, of INTs: a, b, ADD, SUB or LESS: INT");
        Loom x = fresh();
        Pen pen = new Pen(x);
        int eight = pen.number(8);
        int nine = pen.number(9);
        int nil = pen.nil(1);
        for (int kind = 3; kind <= 5; kind++) {
            int made = x.node(kind, eight, nine, 0);
            row("kind " + kind, x, 0, made, 0, 8, 0, 9, kind, 0);
            hasType("kind " + kind, x, made, 0);
            isIll("a pair in front in kind " + kind, x, x.node(kind, nil, nine, 0));
            isIll("a pair behind in kind " + kind, x, x.node(kind, eight, nil, 0));
            isIll("pairs in kind " + kind, x, x.node(kind, nil, nil, 0));
        }
    }

    private static void wrapAround() {
        CHECK.sentence("as is usual: ADD, SUB, LESS");
        Loom x = fresh();
        Pen pen = new Pen(x);
        int max = pen.number(MAX);
        int min = pen.number(MIN);
        int one = pen.number(1);
        int zero = pen.number(0);
        CHECK.due("MAX + 1", valueOf(x, pen.add(max, one)), MIN);
        CHECK.due("1 + MAX", valueOf(x, pen.add(one, max)), MIN);
        CHECK.due("MAX + MAX", valueOf(x, pen.add(max, max)), -2);
        CHECK.due("MIN + MIN", valueOf(x, pen.add(min, min)), 0);
        CHECK.due("MIN + MAX", valueOf(x, pen.add(min, max)), -1);
        CHECK.due("MIN - 1", valueOf(x, pen.sub(min, one)), MAX);
        CHECK.due("0 - MIN", valueOf(x, pen.sub(zero, min)), MIN);
        CHECK.due("MAX - MIN", valueOf(x, pen.sub(max, min)), -1);
        CHECK.due("MIN - MAX", valueOf(x, pen.sub(min, max)), 1);
    }

    private static void less() {
        CHECK.sentence("LESS (1 or 0)");
        Loom x = fresh();
        Pen pen = new Pen(x);
        int[] values = {MIN, -1, 0, 1, MAX};
        for (int a : values) {
            for (int b : values) {
                int made = pen.less(pen.number(a), pen.number(b));
                CHECK.due(a + " < " + b, valueOf(x, made), a < b ? 1 : 0);
            }
        }
    }

    private static void pairParts() {
        CHECK.sentence("6 PAIR a b c: b, c, NEW a: type a, b and c being of its LEFT and RIGHT type");
        Loom x = fresh();
        Pen pen = new Pen(x);
        int[] parts = {pen.number(4), pen.nil(1), pen.nil(2), pen.nil(3)};
        int[][] halves = {{0, 0}, {0, 1}, {1, 0}, {2, 1}};
        for (int t = 1; t <= 3; t++) {
            for (int left = 0; left <= 3; left++) {
                for (int right = 0; right <= 3; right++) {
                    boolean good = halves[t][0] == left && halves[t][1] == right;
                    int made = pen.pair(t, parts[left], parts[right]);
                    CHECK.due("PAIR " + t + " of " + left + " and " + right, layAlone(x, t, made),
                            good ? 4 : RootLoom.ILL);
                }
            }
        }
        hasType("PAIR 3", x, pen.pair(3, parts[2], parts[1]), 3);
        row("PAIR 1", x, 1, pen.pair(1, parts[0], parts[1]), 0, 4, 1, 0, 6, 1);
        row("PAIR 2", x, 2, pen.pair(2, parts[1], parts[0]), 1, 0, 0, 4, 6, 2);
    }

    private static void halves() {
        CHECK.sentence("7 LEFT a, 8 RIGHT a, of a pair type: a, LEFT or RIGHT: the LEFT or RIGHT type");
        Loom x = fresh();
        Pen pen = new Pen(x);
        int[][] want = {{0, 0}, {0, 1}, {1, 0}, {2, 1}};
        for (int t = 1; t <= 3; t++) {
            int nil = pen.nil(t);
            hasType("LEFT of " + t, x, pen.left(nil), want[t][0]);
            hasType("RIGHT of " + t, x, pen.right(nil), want[t][1]);
        }
        isIll("LEFT of an INT", x, pen.left(pen.number(1)));
        isIll("RIGHT of an INT", x, pen.right(pen.number(1)));
        row("LEFT", x, 0, pen.left(pen.nil(1)), 1, 0, 7, 0);
        row("RIGHT", x, 0, pen.right(pen.nil(2)), 1, 0, 8, 0);
        CHECK.due("LEFT of (6, NIL)", valueOf(x, pen.left(pen.list(6))), 6);
        CHECK.due("RIGHT of (NIL, 7)", valueOf(x, pen.right(pen.pair(2, pen.nil(1), pen.number(7)))), 7);
    }

    private static void empty() {
        CHECK.sentence("9 EMPTY a, of a pair type: a, EMPTY: INT");
        Loom x = fresh();
        Pen pen = new Pen(x);
        int nil = pen.nil(1);
        row("EMPTY", x, 0, pen.empty(nil), 1, 0, 9, 0);
        hasType("EMPTY", x, pen.empty(nil), 0);
        isIll("EMPTY of an INT", x, pen.empty(pen.number(0)));
        CHECK.sentence("EMPTY (1 if it is NIL, else 0)");
        CHECK.due("EMPTY of NIL", valueOf(x, pen.empty(nil)), 1);
        CHECK.due("EMPTY of a PAIR", valueOf(x, pen.empty(pen.list(1))), 0);
        CHECK.due("EMPTY of a PAIR of 0 and NIL", valueOf(x, pen.empty(pen.list(0))), 0);
        CHECK.due("EMPTY of the RIGHT of the last", valueOf(x, pen.empty(pen.right(pen.list(1)))), 1);
    }

    private static void choices() {
        CHECK.sentence("10 IF a b c: a (INT), ZERO to L, b, JUMP to M, L: c, M: the type of b, and of c");
        Loom x = fresh();
        Pen pen = new Pen(x);
        int[] parts = {pen.number(4), pen.nil(1), pen.nil(2), pen.nil(3)};
        for (int b = 0; b <= 3; b++) {
            for (int c = 0; c <= 3; c++) {
                int made = pen.choose(parts[0], parts[b], parts[c]);
                CHECK.due("IF of " + b + " and " + c, layAlone(x, b, made), b == c ? 6 : RootLoom.ILL);
                CHECK.due("IF of " + b + " and " + c + " as c", layAlone(x, c, made), b == c ? 6 : RootLoom.ILL);
            }
            isIll("IF of a pair", x, pen.choose(parts[1 + b % 3], parts[b], parts[b]));
        }
        hasType("IF of 1 and 1", x, pen.choose(parts[0], parts[1], parts[1]), 1);
        // L is behind the JUMP, M behind c, where the RET lies.
        row("IF", x, 1, pen.choose(parts[0], parts[1], parts[1]), 0, 4, 10, 4, 1, 0, 11, 5, 1, 0);
        row("IF in c", x, 0, pen.choose(parts[0], parts[0], pen.choose(parts[0], parts[0], parts[0])),
                0, 4, 10, 4, 0, 4, 11, 9, 0, 4, 10, 8, 0, 4, 11, 9, 0, 4);
        row("IF in b", x, 0, pen.choose(parts[0], pen.choose(parts[0], parts[0], parts[0]), parts[0]),
                0, 4, 10, 8, 0, 4, 10, 6, 0, 4, 11, 7, 0, 4, 11, 9, 0, 4);
    }

    private static void lets() {
        CHECK.sentence("11 LET a b c: b, STORE a, c: the type of c; in c local a has that of b");
        Loom x = fresh();
        Pen pen = new Pen(x);
        int[] parts = {pen.number(4), pen.nil(1), pen.nil(2), pen.nil(3)};
        int local = pen.local(6);
        for (int b = 0; b <= 3; b++) {
            hasType("LET of " + b + ", read", x, pen.let(6, parts[b], local), b);
            hasType("LET of " + b + ", an INT behind it", x, pen.let(6, parts[b], parts[0]), 0);
        }
        hasType("LET of an INT, a pair behind it", x, pen.let(6, parts[0], parts[2]), 2);
        row("LET", x, 0, pen.let(6, parts[1], pen.empty(local)), 1, 0, 12, 6, 2, 6, 9, 0);
    }

    private static void callsWithoutArgs() {
        CHECK.sentence("12 CALL a b: its ARGs, if b is not -1");
        Loom x = fresh();
        Pen pen = new Pen(x);
        x.body(3, pen.nil(3));
        for (int f = 0; f < 3; f++) {
            x.body(f, x.node(12, 3, -1, 0));
            CHECK.due("CALL 3 without ARGs in function " + f, x.lay(), RootLoom.ILL);
            x.body(f, pen.empty(x.node(12, 3, -1, 0)));
            CHECK.due("EMPTY of CALL 3 in function " + f, x.lay(), f == 0 ? 5 : RootLoom.ILL);
            x.body(f, -1);
        }
        x.body(0, pen.empty(x.node(12, 3, -1, 0)));
        x.lay();
        CHECK.due("the CALL comes first", x.instruction(0, 0), 13);
        CHECK.due("of function 3", x.instruction(0, 1), 3);
        CHECK.due("run(0)", x.run(0, 0, 0, 0), 1);
        CHECK.due("value", x.value(0, 0), 1);
    }

    private static void argsFromTheFirstOn() {
        CHECK.sentence("its ARGs, if b is not -1, from the first on, CALL a: the type of the function's result");
        Loom x = fresh();
        Pen pen = new Pen(x);
        int f = x.function(2, 3, 0, 1, 2);
        x.body(f, pen.pair(2, pen.local(1), pen.add(pen.local(0), pen.right(pen.local(2)))));
        int third = pen.pair(2, pen.nil(1), pen.number(40));
        int call = pen.call(f, pen.number(2), pen.list(9), third);
        hasType("CALL", x, call, 2);
        x.body(2, call);
        x.lay();
        int[] want = {0, 2, 0, 9, 1, 0, 6, 1, 1, 0, 0, 40, 6, 2, 13, f, 14, 0};
        for (int i = 0; i < want.length / 2; i++) {
            CHECK.due("instruction(" + i + ", 0)", x.instruction(i, 0), want[2 * i]);
            CHECK.due("instruction(" + i + ", 1)", x.instruction(i, 1), want[2 * i + 1]);
        }
        CHECK.due("run(2)", x.run(2, 0, 0, 0), 1);
        CHECK.due("the first and the third", x.value(1, 1), 42);
        CHECK.due("the second", x.value(0, 2), 9);
        CHECK.sentence("13 ARG a b: an expression a, then the ARG b (-1: none)");
        int one = pen.number(1);
        CHECK.due("ARG with none behind it", x.node(13, one, -1, 0) > 0, true);
        CHECK.due("ARG with -2 behind it", x.node(13, one, -2, 0), -1);
        CHECK.due("ARG with an expression behind it", x.node(13, one, one, 0), -1);
        CHECK.due("ARG without an expression", x.node(13, -1, -1, 0), -1);
    }

    private static void puts() {
        CHECK.sentence("14 PUTLEFT a b, 15 PUTRIGHT, of a pair type and of its LEFT or RIGHT type: "
                + "a, b, PUTLEFT or PUTRIGHT: the type of b");
        Loom x = fresh();
        Pen pen = new Pen(x);
        int[] parts = {pen.number(4), pen.nil(1), pen.nil(2), pen.nil(3)};
        int[][] halves = {{0, 0}, {0, 1}, {1, 0}, {2, 1}};
        for (int into = 0; into <= 3; into++) {
            for (int put = 0; put <= 3; put++) {
                for (int side = 0; side < 2; side++) {
                    boolean good = into > 0 && halves[into][side] == put;
                    int made = x.node(14 + side, parts[into], parts[put], 0);
                    CHECK.due("kind " + (14 + side) + " of " + into + " and " + put, layAlone(x, put, made),
                            good ? 4 : RootLoom.ILL);
                }
            }
        }
        row("PUTLEFT", x, 2, pen.putLeft(parts[3], parts[2]), 1, 0, 1, 0, 15, 0);
        row("PUTRIGHT", x, 0, pen.putRight(parts[2], parts[0]), 1, 0, 0, 4, 16, 0);
        putsChange(fresh());
    }

    /** A pair of type 4, of INTs, into which is put on each side. */
    private static void putsChange(Loom x) {
        CHECK.sentence("PUTLEFT, PUTRIGHT (what was put)");
        Pen pen = new Pen(x);
        int f = x.function(4, 0, 0, 0, 0);
        int pair = pen.pair(4, pen.number(1), pen.number(2));
        int l = pen.local(0);
        int seven = pen.number(7);
        int[][] want = {{7, 2}, {1, 7}};
        for (int side = 0; side < 2; side++) {
            int put = x.node(14 + side, l, seven, 0);
            layAlone(x, f, pen.let(0, pair, pen.then(put, l)));
            CHECK.due("run", x.run(f, 0, 0, 0), 1);
            CHECK.due("left, put on side " + side, x.value(0, 1), want[side][0]);
            CHECK.due("right, put on side " + side, x.value(1, 1), want[side][1]);
            CHECK.due("what was put", valueOf(x, pen.let(0, pair, put)), 7);
        }
    }

    private static void outs() {
        CHECK.sentence("16 OUT a, of an INT: a, PUT: INT");
        Loom x = fresh();
        Pen pen = new Pen(x);
        hasType("OUT of an INT", x, pen.out(pen.number(1)), 0);
        isIll("OUT of a pair", x, pen.out(pen.nil(1)));
        row("OUT", x, 0, pen.out(pen.number(3)), 0, 3, 17, 0);
        CHECK.sentence("PUT (the int)");
        CHECK.due("what OUT answers", valueOf(x, pen.out(pen.number(MIN))), MIN);
        CHECK.due("what it puts out", x.out(0), MIN);
    }

    private static void thens() {
        CHECK.sentence("17 THEN a b: a, DROP, b: the type of b");
        Loom x = fresh();
        Pen pen = new Pen(x);
        int[] parts = {pen.number(4), pen.nil(1), pen.nil(2), pen.nil(3)};
        for (int a = 0; a <= 3; a++) {
            for (int b = 0; b <= 3; b++) {
                hasType("THEN of " + a + " and " + b, x, pen.then(parts[a], parts[b]), b);
            }
        }
        row("THEN", x, 1, pen.then(parts[0], parts[1]), 0, 4, 18, 0, 1, 0);
        CHECK.due("the value of b", valueOf(x, pen.then(parts[0], pen.number(5))), 5);
        isIll("THEN of what is ill", x, pen.then(pen.left(parts[0]), parts[0]));
    }
}
