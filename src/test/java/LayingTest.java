/** Promises 6 to 10: lay, laid, instruction, entry, map. */
public final class LayingTest {
    private static final Check CHECK = new Check("LayingTest");

    private static final int PUSH = 0, NULL = 1, LOAD = 2, ADD = 3, SUB = 4, LESS = 5, NEW = 6,
            LEFT = 7, RIGHT = 8, EMPTY = 9, ZERO = 10, JUMP = 11, STORE = 12, CALL = 13, RET = 14,
            PUTLEFT = 15, PUTRIGHT = 16, PUT = 17, DROP = 18;

    public static void main(String[] args) {
        everyKindIsLaidDown();
        jumpsInsideJumps();
        functionByFunction();
        layWithoutBodies();
        mostInstructions();
        mostValues();
        valuesOfEachKind();
        tooLargeBeforeIll();
        illOperands();
        illPairs();
        illIf();
        illLocals();
        goodLocals();
        illCalls();
        illResult();
        layForgetsTheRun();
        laidAnswers();
        instructionThrows();
        entryAnswers();
        mapAnswers();
        mapOfLocals();
        mapOverBranches();
        mapOfPile();
        deepBodies();
        CHECK.end();
    }

    private static Loom fresh() {
        Loom x = new Loom();
        x.type(1, 0, 1);
        x.type(2, 1, 0);
        return x;
    }

    /** Rows of operation and operand, of all that is laid down. */
    private static void row(String name, Loom x, int... want) {
        CHECK.due(name + ": lay()", x.lay(), want.length / 2);
        CHECK.due(name + ": laid(0)", x.laid(0), want.length / 2);
        for (int i = 0; i < want.length / 2 && i < x.laid(0); i++) {
            CHECK.due(name + ": instruction(" + i + ", 0)", x.instruction(i, 0), want[2 * i]);
            CHECK.due(name + ": instruction(" + i + ", 1)", x.instruction(i, 1), want[2 * i + 1]);
        }
    }

    private static void everyKindIsLaidDown() {
        Loom x = fresh();
        Pen pen = new Pen(x);
        x.function(0, 2, 0, 1, 0);
        int a = pen.local(0);
        int l = pen.local(1);
        x.body(0, pen.number(-9));
        row("6: NUMBER", x, PUSH, -9, RET, 0);
        x.body(0, pen.empty(pen.nil(5)));
        row("6: NIL, EMPTY", x, NULL, 0, EMPTY, 0, RET, 0);
        x.body(0, pen.less(pen.sub(pen.add(a, pen.number(7)), a), a));
        row("6: ADD, SUB, LESS", x, LOAD, 0, PUSH, 7, ADD, 0, LOAD, 0, SUB, 0, LOAD, 0, LESS, 0, RET, 0);
        x.body(0, pen.left(pen.pair(1, a, l)));
        row("6: PAIR, LEFT", x, LOAD, 0, LOAD, 1, NEW, 1, LEFT, 0, RET, 0);
        x.body(0, pen.right(pen.pair(2, l, a)));
        row("6: PAIR, RIGHT", x, LOAD, 1, LOAD, 0, NEW, 2, RIGHT, 0, RET, 0);
        x.body(0, pen.choose(a, pen.number(1), pen.number(2)));
        row("6: IF", x, LOAD, 0, ZERO, 4, PUSH, 1, JUMP, 5, PUSH, 2, RET, 0);
        x.body(0, pen.let(7, pen.right(l), pen.left(pen.local(7))));
        row("6: LET", x, LOAD, 1, RIGHT, 0, STORE, 7, LOAD, 7, LEFT, 0, RET, 0);
        x.body(0, pen.call(0, pen.number(4), l));
        row("6: CALL, ARG", x, PUSH, 4, LOAD, 1, CALL, 0, RET, 0);
        x.body(0, pen.putLeft(l, a));
        row("6: PUTLEFT", x, LOAD, 1, LOAD, 0, PUTLEFT, 0, RET, 0);
        x.body(0, pen.empty(pen.putRight(l, pen.right(l))));
        row("6: PUTRIGHT", x, LOAD, 1, LOAD, 1, RIGHT, 0, PUTRIGHT, 0, EMPTY, 0, RET, 0);
        x.body(0, pen.out(a));
        row("6: OUT", x, LOAD, 0, PUT, 0, RET, 0);
        x.body(0, pen.then(l, a));
        row("6: THEN", x, LOAD, 1, DROP, 0, LOAD, 0, RET, 0);
    }

    private static void jumpsInsideJumps() {
        Loom x = fresh();
        Pen pen = new Pen(x);
        x.function(0, 0, 0, 0, 0);
        x.body(0, pen.number(0));
        x.function(0, 1, 0, 0, 0);
        int a = pen.local(0);
        int inner = pen.choose(a, pen.number(1), pen.number(2));
        x.body(1, pen.choose(inner, inner, inner));
        row("8: IFs inside an IF, behind another function", x, PUSH, 0, RET, 0,
                LOAD, 0, ZERO, 6, PUSH, 1, JUMP, 7, PUSH, 2,
                ZERO, 14,
                LOAD, 0, ZERO, 12, PUSH, 1, JUMP, 13, PUSH, 2,
                JUMP, 19,
                LOAD, 0, ZERO, 18, PUSH, 1, JUMP, 19, PUSH, 2,
                RET, 0);
    }

    private static void functionByFunction() {
        Loom x = fresh();
        Pen pen = new Pen(x);
        x.function(0, 0, 0, 0, 0);
        x.function(0, 0, 0, 0, 0);
        x.function(0, 0, 0, 0, 0);
        x.body(2, pen.number(2));
        x.body(0, pen.number(0));
        row("6: nothing for one without a BODY", x, PUSH, 0, RET, 0, PUSH, 2, RET, 0);
        CHECK.due("9: entry(0)", x.entry(0), 0);
        CHECK.due("9: entry(1), no BODY", x.entry(1), -1);
        CHECK.due("9: entry(2)", x.entry(2), 2);
        x.body(1, pen.number(1));
        row("6: in the order of the functions", x, PUSH, 0, RET, 0, PUSH, 1, RET, 0, PUSH, 2, RET, 0);
        CHECK.due("9: entry(2), moved", x.entry(2), 4);
    }

    private static void layWithoutBodies() {
        Loom x = fresh();
        CHECK.due("6: no function", x.lay(), 0);
        CHECK.due("7: none, but laid down", x.laid(0), 0);
        CHECK.due("7: no NEWs", x.laid(1), 0);
        CHECK.due("7: no values", x.laid(2), 0);
        CHECK.due("9: no entry", x.entry(0), -1);
        x.function(0, 0, 0, 0, 0);
        CHECK.due("6: no BODY", x.lay(), 0);
        CHECK.due("13: no run", x.run(0, 0, 0, 0), -1);
    }

    private static void mostInstructions() {
        Loom x = fresh();
        Pen pen = new Pen(x);
        x.function(0, 0, 0, 0, 0);
        int one = pen.number(1);
        int sum = pen.sum(one, 200);
        x.body(0, sum);
        CHECK.due("6: 400 instructions", x.lay(), 400);
        CHECK.due("13: run", x.run(0, 0, 0, 0), 1);
        CHECK.due("17: all of them", x.value(0, 0), 200);
        x.body(0, pen.out(sum));
        CHECK.due("6: 401 instructions", x.lay(), -2);
        CHECK.due("7: nothing is laid down then", x.laid(0), -1);
        CHECK.due("9: no entry then", x.entry(0), -1);
        CHECK.due("13: no run then", x.run(0, 0, 0, 0), -1);
        x.function(0, 0, 0, 0, 0);
        x.body(0, pen.sum(one, 199));
        x.body(1, one);
        CHECK.due("6: 400 of two functions", x.lay(), 400);
        x.body(1, pen.out(one));
        CHECK.due("6: 401 of two functions", x.lay(), -2);
        x.body(1, -1);
        CHECK.due("6: 398 without the second", x.lay(), 398);
        int huge = sum;
        for (int k = 0; k < 60; k++) {
            huge = pen.add(huge, huge);
        }
        x.body(1, huge);
        CHECK.due("6: far more than an int can count", x.lay(), -2);
        x.body(0, -1);
        x.body(1, pen.choose(one, huge, huge));
        CHECK.due("6: and more", x.lay(), -2);
    }

    private static int rightward(Pen pen, int leaf, int values) {
        int made = leaf;
        for (int k = 1; k < values; k++) {
            made = pen.add(leaf, made);
        }
        return made;
    }

    private static void mostValues() {
        Loom x = fresh();
        Pen pen = new Pen(x);
        x.function(0, 0, 0, 0, 0);
        x.function(0, 0, 0, 0, 0);
        int one = pen.number(1);
        int sixteen = rightward(pen, one, 16);
        x.body(0, sixteen);
        CHECK.due("6: 16 values", x.lay(), 32);
        CHECK.due("7: 16 values", x.laid(2), 16);
        CHECK.due("13: run", x.run(0, 0, 0, 0), 1);
        CHECK.due("17: their sum", x.value(0, 0), 16);
        x.body(1, pen.add(sixteen, one));
        CHECK.due("6: 16 in front", x.lay(), 32 + 34);
        CHECK.due("7: still 16", x.laid(2), 16);
        x.body(1, pen.add(one, sixteen));
        CHECK.due("6: 17 values in the second function", x.lay(), -2);
        CHECK.due("7: nothing is laid down", x.laid(2), -1);
    }

    private static int valuesOf(int kind, int a, int b, int c, Loom x) {
        x.body(0, x.node(kind, a, b, c));
        x.lay();
        return x.laid(2);
    }

    /** Parts that need three values each, so that it is seen where another one waits below. */
    private static void valuesOfEachKind() {
        Loom x = fresh();
        Pen pen = new Pen(x);
        x.function(0, 3, 0, 1, 0);
        int one = pen.number(1);
        int deep = rightward(pen, one, 3);
        int list = pen.pair(1, one, pen.pair(1, one, pen.nil(1)));
        CHECK.due("7: NUMBER", valuesOf(0, 1, 0, 0, x), 1);
        CHECK.due("7: LOCAL", valuesOf(2, 0, 0, 0, x), 1);
        CHECK.due("7: ADD, first", valuesOf(3, deep, one, 0, x), 3);
        CHECK.due("7: ADD, second", valuesOf(3, one, deep, 0, x), 4);
        CHECK.due("7: SUB", valuesOf(4, one, deep, 0, x), 4);
        CHECK.due("7: LESS", valuesOf(5, one, deep, 0, x), 4);
        CHECK.due("7: PAIR, second", valuesOf(7, pen.pair(1, deep, list), 0, 0, x), 4);
        CHECK.due("7: PAIR, first", valuesOf(7, pen.pair(1, deep, pen.nil(1)), 0, 0, x), 3);
        CHECK.due("7: EMPTY", valuesOf(9, list, 0, 0, x), 3);
        CHECK.due("7: IF, a", valuesOf(10, deep, one, one, x), 3);
        CHECK.due("7: IF, b", valuesOf(10, one, deep, one, x), 3);
        CHECK.due("7: IF, c", valuesOf(10, one, one, deep, x), 3);
        CHECK.due("7: LET, b", valuesOf(11, 5, deep, one, x), 3);
        CHECK.due("7: LET, c", valuesOf(11, 5, one, deep, x), 3);
        CHECK.due("7: PUTLEFT", valuesOf(14, list, deep, 0, x), 4);
        CHECK.due("7: PUTRIGHT", valuesOf(9, pen.putRight(list, list), 0, 0, x), 4);
        CHECK.due("7: OUT", valuesOf(16, deep, 0, 0, x), 3);
        CHECK.due("7: THEN, a", valuesOf(17, deep, one, 0, x), 3);
        CHECK.due("7: THEN, b", valuesOf(17, one, deep, 0, x), 3);
        x.body(0, pen.call(0, one, pen.nil(1), deep));
        x.lay();
        CHECK.due("7: CALL, third ARG", x.laid(2), 5);
        x.body(0, pen.call(0, deep, pen.nil(1), one));
        x.lay();
        CHECK.due("7: CALL, first ARG", x.laid(2), 3);
        x.function(0, 0, 0, 0, 0);
        x.body(0, -1);
        x.body(1, pen.call(1));
        x.lay();
        CHECK.due("7: CALL without ARGs", x.laid(2), 1);
    }

    private static void tooLargeBeforeIll() {
        Loom x = fresh();
        Pen pen = new Pen(x);
        x.function(0, 0, 0, 0, 0);
        x.function(0, 0, 0, 0, 0);
        int ill = pen.left(pen.number(1));
        x.body(0, ill);
        x.body(1, pen.sum(pen.number(1), 198));
        CHECK.due("6: ill, 399", x.lay(), -3);
        x.body(1, pen.sum(pen.number(1), 199));
        CHECK.due("6: ill, and too large by one", x.lay(), -2);
        x.body(1, rightward(pen, ill, 16));
        CHECK.due("6: ill, with 16 values", x.lay(), -3);
        x.body(1, rightward(pen, ill, 17));
        CHECK.due("6: ill, with 17 values", x.lay(), -2);
        x.body(0, -1);
        // Node 0 is a NUMBER, so rows of zeros are ARGs of that.
        x.body(1, pen.call(1, new int[16]));
        CHECK.due("6: 16 ARGs are ill", x.lay(), -3);
        x.body(1, pen.call(1, new int[17]));
        CHECK.due("6: 17 ARGs are too large", x.lay(), -2);
    }

    private static void ill(String what, Loom x, int result, int body) {
        bodyOf(what, x, result, body, -3);
    }

    /** Functions 0 to 2 answer an INT, a 1, a 2; their parameters are an INT and a 1. */
    private static void bodyOf(String what, Loom x, int result, int body, int want) {
        for (int f = 0; f < 3; f++) {
            x.body(f, f == result ? body : -1);
        }
        CHECK.due("6: " + what, x.lay(), want);
    }

    private static Loom withThree() {
        Loom x = fresh();
        for (int f = 0; f < 3; f++) {
            x.function(f, 2, 0, 1, 0);
        }
        return x;
    }

    private static void illOperands() {
        Loom x = withThree();
        Pen pen = new Pen(x);
        int one = pen.number(1);
        int nil = pen.nil(1);
        for (int kind = 3; kind <= 5; kind++) {
            ill("pair in front in kind " + kind, x, 0, x.node(kind, nil, one, 0));
            ill("pair behind in kind " + kind, x, 0, x.node(kind, one, nil, 0));
            ill("two pairs in kind " + kind, x, 0, x.node(kind, nil, nil, 0));
            bodyOf("INTs in kind " + kind, x, 0, x.node(kind, one, one, 0), 4);
        }
        for (int kind = 7; kind <= 9; kind++) {
            ill("an INT in kind " + kind, x, 0, x.node(kind, one, 0, 0));
        }
        ill("OUT of a pair", x, 0, pen.out(nil));
        ill("OUT answers no pair", x, 1, pen.out(one));
        ill("THEN has b's type", x, 1, pen.then(nil, one));
        bodyOf("THEN of a pair, with b's type", x, 0, pen.then(nil, one), 4);
        bodyOf("THEN of an INT, with b's type", x, 1, pen.then(one, nil), 4);
        ill("what THEN drops must be well typed, too", x, 0, pen.then(pen.left(one), one));
    }

    private static void illPairs() {
        Loom x = withThree();
        Pen pen = new Pen(x);
        int one = pen.number(1);
        int nil1 = pen.nil(1);
        int nil2 = pen.nil(2);
        bodyOf("PAIR 1", x, 1, pen.pair(1, one, nil1), 4);
        ill("PAIR 1 with the parts of 2", x, 1, pen.pair(1, nil1, one));
        ill("PAIR 1 with a wrong left", x, 1, pen.pair(1, nil1, nil1));
        ill("PAIR 1 with a wrong right", x, 1, pen.pair(1, one, one));
        ill("PAIR 1 with another pair type", x, 1, pen.pair(1, one, nil2));
        ill("PAIR 1 is no 2", x, 2, pen.pair(1, one, nil1));
        bodyOf("LEFT of a 2 is a 1", x, 1, pen.left(nil2), 3);
        ill("RIGHT of a 2 is no 1", x, 1, pen.right(nil2));
        bodyOf("RIGHT of a 1 is a 1", x, 1, pen.right(nil1), 3);
        ill("LEFT of a 1 is no 1", x, 1, pen.left(nil1));
        bodyOf("PUTLEFT of an INT", x, 0, pen.putLeft(nil1, one), 4);
        ill("PUTLEFT has the type of b", x, 1, pen.putLeft(nil1, one));
        ill("PUTLEFT of a wrong type", x, 1, pen.putLeft(nil1, nil1));
        ill("PUTLEFT into an INT", x, 0, pen.putLeft(one, one));
        bodyOf("PUTRIGHT of a 1", x, 1, pen.putRight(nil1, nil1), 4);
        ill("PUTRIGHT of an INT", x, 0, pen.putRight(nil1, one));
        ill("PUTRIGHT into an INT", x, 0, pen.putRight(one, one));
        bodyOf("PUTLEFT of a 1 into a 2", x, 1, pen.putLeft(nil2, nil1), 4);
        bodyOf("PUTRIGHT of an INT into a 2", x, 0, pen.putRight(nil2, one), 4);
        ill("PUTRIGHT of a 2 into a 1", x, 2, pen.putRight(nil1, nil2));
    }

    private static void illIf() {
        Loom x = withThree();
        Pen pen = new Pen(x);
        int one = pen.number(1);
        int nil1 = pen.nil(1);
        int nil2 = pen.nil(2);
        bodyOf("IF of two 1s", x, 1, pen.choose(one, nil1, nil1), 6);
        ill("IF of a pair", x, 0, pen.choose(nil1, one, one));
        ill("IF of 1 and INT", x, 1, pen.choose(one, nil1, one));
        ill("IF of INT and 1", x, 0, pen.choose(one, one, nil1));
        ill("IF of INT and 1, asked for a 1", x, 1, pen.choose(one, one, nil1));
        ill("IF of 1 and 2", x, 1, pen.choose(one, nil1, nil2));
        ill("IF of 1s, asked for an INT", x, 0, pen.choose(one, nil1, nil1));
    }

    private static void illLocals() {
        Loom x = withThree();
        Pen pen = new Pen(x);
        int one = pen.number(1);
        int two = pen.local(2);
        ill("a local that is none", x, 0, two);
        ill("a local of b alone", x, 0, pen.let(2, two, one));
        ill("a local after its LET", x, 0, pen.add(pen.let(2, one, two), two));
        ill("a local before its LET", x, 0, pen.add(two, pen.let(2, one, two)));
        ill("a local of the other way", x, 0, pen.choose(one, pen.let(2, one, two), two));
        ill("LET of a parameter", x, 0, pen.let(0, one, one));
        ill("LET of the last parameter", x, 0, pen.let(1, pen.nil(1), one));
        ill("LET of a local that is one", x, 0, pen.let(2, one, pen.let(2, one, two)));
        ill("LET of it deeper", x, 0, pen.let(2, one, pen.let(3, pen.let(2, one, two), one)));
        ill("a local of a wrong type", x, 0, pen.let(2, pen.nil(1), two));
        ill("a parameter of a wrong type", x, 0, pen.local(1));
        ill("LET has the type of c", x, 1, pen.let(2, pen.nil(1), one));
    }

    private static void goodLocals() {
        Loom x = withThree();
        Pen pen = new Pen(x);
        int one = pen.number(1);
        int two = pen.local(2);
        bodyOf("LET inside b, of the same local", x, 0, pen.let(2, pen.let(2, one, two), two), 6);
        CHECK.due("13: its run", x.run(0, 0, 0, 0), -1);
        bodyOf("LETs of one local beside one another", x, 0,
                pen.add(pen.let(2, one, two), pen.let(2, one, two)), 8);
        bodyOf("with other types", x, 0,
                pen.add(pen.let(2, one, two), pen.let(2, pen.nil(2), pen.right(two))), 9);
        int nest = one;
        for (int local = 7; local >= 2; local--) {
            nest = pen.let(local, one, nest);
        }
        bodyOf("all locals", x, 0, nest, 14);
        x.function(0, 0, 0, 0, 0);
        x.body(0, -1);
        x.body(3, pen.let(0, one, pen.local(0)));
        CHECK.due("6: local 0 without parameters", x.lay(), 4);
    }

    private static void illCalls() {
        Loom x = withThree();
        Pen pen = new Pen(x);
        int one = pen.number(1);
        int nil1 = pen.nil(1);
        bodyOf("CALL of itself", x, 0, pen.call(0, one, nil1), 4);
        ill("CALL of one without a BODY", x, 0, pen.then(pen.call(1, one, nil1), one));
        ill("CALL without ARGs", x, 0, pen.call(0));
        ill("CALL with an ARG too few", x, 0, pen.call(0, one));
        ill("CALL with an ARG too many", x, 0, pen.call(0, one, nil1, one));
        ill("CALL with the ARGs the other way", x, 0, pen.call(0, nil1, one));
        ill("CALL with a wrong first", x, 0, pen.call(0, nil1, nil1));
        ill("CALL with a wrong second", x, 0, pen.call(0, one, one));
        ill("CALL with another pair type", x, 0, pen.call(0, one, pen.nil(2)));
        ill("CALL has the result's type", x, 1, pen.call(1, one, pen.call(2, one, nil1)));
        x.body(0, one);
        x.body(1, pen.then(pen.call(0, one, nil1), nil1));
        CHECK.due("6: CALL of an older function", x.lay(), 2 + 6);
        x.body(0, pen.empty(pen.call(1, one, nil1)));
        CHECK.due("6: of a younger one, too", x.lay(), 5 + 6);
        x.body(0, -1);
        CHECK.due("6: its BODY is gone", x.lay(), -3);
    }

    private static void illResult() {
        Loom x = withThree();
        Pen pen = new Pen(x);
        ill("a pair for an INT", x, 0, pen.nil(1));
        ill("an INT for a pair", x, 1, pen.number(0));
        ill("a 2 for a 1", x, 1, pen.nil(2));
        x.body(0, pen.number(1));
        x.body(1, pen.number(1));
        CHECK.due("6: one of two is ill", x.lay(), -3);
        CHECK.due("7: nothing is laid down", x.laid(0), -1);
        CHECK.due("9: no entry of the good one", x.entry(0), -1);
    }

    private static void layForgetsTheRun() {
        Loom x = fresh();
        Pen pen = new Pen(x);
        x.function(0, 0, 0, 0, 0);
        x.body(0, pen.out(pen.number(5)));
        x.lay();
        x.run(0, 0, 0, 0);
        CHECK.due("14: a run", x.latest(0), 1);
        x.lay();
        CHECK.due("6: no latest run any more", x.latest(0), -1);
        CHECK.due("6: nothing put out any more", x.out(0), 0);
        CHECK.due("6: no result any more", x.tell(0, 0), -1);
        CHECK.due("6: no value any more", x.value(0, 0), 0);
        x.run(0, 0, 0, 0);
        x.body(0, pen.nil(1));
        CHECK.due("6: ill", x.lay(), -3);
        CHECK.due("6: no latest run, though ill", x.latest(1), -1);
    }

    private static void laidAnswers() {
        Loom x = withThree();
        Pen pen = new Pen(x);
        CHECK.due("7: nothing yet", x.laid(1), -1);
        int one = pen.number(1);
        int nil = pen.nil(1);
        bodyOf("two NEWs and a CALL", x, 1, pen.call(1, one, pen.pair(1, one, pen.pair(1, one, nil))), 8);
        CHECK.due("7: instructions", x.laid(0), 8);
        CHECK.due("7: NEWs and CALLs", x.laid(1), 3);
        CHECK.due("7: values", x.laid(2), 4);
        CHECK.due("7: what -1", x.laid(-1), -1);
        CHECK.due("7: what 3", x.laid(3), -1);
        CHECK.due("7: what MIN", x.laid(Integer.MIN_VALUE), -1);
        x.lay();
        CHECK.due("7: laid down again, counted anew", x.laid(1), 3);
    }

    /** 1 for an index, 2 for an argument, 0 if nothing is thrown. */
    private static int thrown(Loom x, int i, int what) {
        try {
            x.instruction(i, what);
            return 0;
        } catch (IndexOutOfBoundsException e) {
            return 1;
        } catch (IllegalArgumentException e) {
            return 2;
        }
    }

    private static void instructionThrows() {
        Loom x = fresh();
        Pen pen = new Pen(x);
        CHECK.due("8: nothing laid down", thrown(x, 0, 0), 1);
        x.function(0, 0, 0, 0, 0);
        x.body(0, pen.number(1));
        x.lay();
        CHECK.due("8: the first", thrown(x, 0, 0), 0);
        CHECK.due("8: the last", thrown(x, 1, 1), 0);
        CHECK.due("8: one behind", thrown(x, 2, 0), 1);
        CHECK.due("8: one before", thrown(x, -1, 1), 1);
        CHECK.due("8: MAX", thrown(x, Integer.MAX_VALUE, 0), 1);
        CHECK.due("8: MIN", thrown(x, Integer.MIN_VALUE, 0), 1);
        CHECK.due("8: what 2", thrown(x, 0, 2), 2);
        CHECK.due("8: what -1", thrown(x, 1, -1), 2);
        CHECK.due("8: neither is there: the index is looked at first", thrown(x, 2, 2), 1);
        x.body(0, pen.nil(1));
        x.lay();
        CHECK.due("8: nothing laid down any more", thrown(x, 0, 0), 1);
        x.body(0, -1);
        x.lay();
        CHECK.due("8: none laid down", thrown(x, 0, 0), 1);
    }

    private static void entryAnswers() {
        Loom x = fresh();
        Pen pen = new Pen(x);
        x.function(0, 0, 0, 0, 0);
        x.body(0, pen.number(1));
        CHECK.due("9: nothing laid down", x.entry(0), -1);
        x.lay();
        CHECK.due("9: the first", x.entry(0), 0);
        CHECK.due("9: function -1", x.entry(-1), -1);
        CHECK.due("9: function 1", x.entry(1), -1);
        CHECK.due("9: function 6", x.entry(6), -1);
        CHECK.due("9: function MAX", x.entry(Integer.MAX_VALUE), -1);
        x.function(0, 0, 0, 0, 0);
        x.body(1, pen.number(1));
        CHECK.due("9: a function that came later", x.entry(1), -1);
        CHECK.due("13: does not run", x.run(1, 0, 0, 0), -1);
        x.lay();
        CHECK.due("9: laid down now", x.entry(1), 2);
    }

    private static void mapAnswers() {
        Loom x = withThree();
        Pen pen = new Pen(x);
        CHECK.due("10: nothing laid down", x.map(0, 0), -1);
        bodyOf("a NEW and a CALL", x, 1,
                pen.call(1, pen.number(1), pen.pair(1, pen.local(0), pen.local(1))), 6);
        // PUSH 1, LOAD 0, LOAD 1, NEW 1, CALL 1, RET
        CHECK.due("10: locals of the NEW", x.map(3, 0), 0);
        CHECK.due("10: values of the NEW", x.map(3, 1), 4);
        CHECK.due("10: locals of the CALL", x.map(4, 0), 0);
        CHECK.due("10: values of the CALL", x.map(4, 1), 2);
        CHECK.due("10: which -1", x.map(3, -1), -1);
        CHECK.due("10: which 2", x.map(3, 2), -1);
        CHECK.due("10: a PUSH", x.map(0, 0), -1);
        CHECK.due("10: a LOAD", x.map(2, 1), -1);
        CHECK.due("10: the RET", x.map(5, 0), -1);
        CHECK.due("10: one behind", x.map(6, 0), -1);
        CHECK.due("10: one before", x.map(-1, 1), -1);
        bodyOf("nothing laid down any more", x, 1, pen.number(1), -3);
        CHECK.due("10: no map any more", x.map(3, 1), -1);
    }

    private static void mapOfLocals() {
        Loom x = fresh();
        Pen pen = new Pen(x);
        x.function(0, 3, 1, 0, 1);
        int one = pen.number(1);
        int fresh = pen.pair(1, one, pen.nil(1));
        int first = pen.left(pen.local(0));
        int third = pen.left(pen.local(2));
        // PUSH, NULL, NEW at 2, DROP, then what is read behind it.
        x.body(0, pen.then(fresh, first));
        x.lay();
        CHECK.due("10: local 0 matters", x.map(2, 0), 1);
        x.body(0, pen.then(fresh, pen.add(third, first)));
        x.lay();
        CHECK.due("10: locals 0 and 2 matter", x.map(2, 0), 5);
        x.body(0, pen.then(fresh, pen.local(1)));
        x.lay();
        CHECK.due("10: an INT is no pair", x.map(2, 0), 0);
        x.body(0, pen.then(fresh, one));
        x.lay();
        CHECK.due("10: none is read", x.map(2, 0), 0);
        x.body(0, pen.add(first, pen.then(fresh, pen.local(1))));
        x.lay();
        // LOAD 0, LEFT, PUSH, NULL, NEW at 4
        CHECK.due("10: read before it only", x.map(4, 0), 0);
        x.body(0, pen.let(7, pen.local(0), pen.then(fresh, pen.left(pen.local(7)))));
        x.lay();
        // LOAD 0, STORE 7, PUSH, NULL, NEW at 4
        CHECK.due("10: local 7 matters", x.map(4, 0), 128);
        x.body(0, pen.let(3, fresh, pen.left(pen.local(3))));
        x.lay();
        CHECK.due("10: stored before it is read", x.map(2, 0), 0);
        int again = pen.let(3, pen.nil(1), pen.left(pen.local(3)));
        x.body(0, pen.add(pen.let(3, fresh, pen.then(fresh, one)), again));
        x.lay();
        // PUSH, NULL, NEW, STORE 3, PUSH, NULL, NEW at 6, .. STORE 3, LOAD 3
        CHECK.due("10: the next LET stores before it is read", x.map(6, 0), 0);
        int intFirst = pen.let(3, one, pen.then(fresh, pen.local(3)));
        x.body(0, pen.add(intFirst, again));
        x.lay();
        // PUSH, STORE 3, PUSH, NULL, NEW at 4
        CHECK.due("10: a local that is an INT there", x.map(4, 0), 0);
    }

    private static void mapOverBranches() {
        Loom x = fresh();
        Pen pen = new Pen(x);
        x.function(0, 3, 1, 0, 1);
        int one = pen.number(1);
        int fresh = pen.pair(1, one, pen.nil(1));
        int first = pen.left(pen.local(0));
        int third = pen.left(pen.local(2));
        int i = pen.local(1);
        x.body(0, pen.then(fresh, pen.choose(i, first, third)));
        x.lay();
        CHECK.due("10: by either way", x.map(2, 0), 5);
        x.body(0, pen.choose(i, pen.then(fresh, first), third));
        x.lay();
        // LOAD 1, ZERO, PUSH, NULL, NEW at 4
        CHECK.due("10: not what the other way reads", x.map(4, 0), 1);
        x.body(0, pen.choose(i, one, pen.then(fresh, third)));
        x.lay();
        // LOAD 1, ZERO, PUSH, JUMP, PUSH, NULL, NEW at 6
        CHECK.due("10: the same for the other", x.map(6, 0), 4);
        x.body(0, pen.add(pen.choose(i, pen.then(fresh, one), third), first));
        x.lay();
        CHECK.due("10: behind both ways", x.map(4, 0), 1);
        x.body(0, pen.choose(pen.left(fresh), first, pen.choose(i, one, third)));
        x.lay();
        CHECK.due("10: from the test on", x.map(2, 0), 5);
        x.function(0, 1, 1, 0, 0);
        x.body(0, pen.then(fresh, one));
        x.body(1, first);
        x.lay();
        CHECK.due("10: not into the next function", x.map(2, 0), 0);
        x.body(0, pen.add(pen.call(1, pen.local(0)), third));
        x.lay();
        // LOAD 0, CALL 1
        CHECK.due("10: of a CALL, in its own function", x.map(1, 0), 4);
        CHECK.due("10: what the CALL takes", x.map(1, 1), 1);
        int g = x.function(0, 0, 0, 0, 0);
        x.body(g, one);
        x.body(0, pen.add(pen.call(g), third));
        x.lay();
        CHECK.due("10: of a CALL that is the first instruction", x.map(0, 0), 4);
        CHECK.due("10: which takes nothing", x.map(0, 1), 0);
    }

    private static void mapOfPile() {
        Loom x = fresh();
        Pen pen = new Pen(x);
        x.type(3, 1, 1);
        x.function(3, 1, 1, 0, 0);
        int one = pen.number(1);
        int l = pen.local(0);
        int inner = pen.pair(1, one, l);
        x.body(0, pen.pair(3, l, inner));
        x.lay();
        // LOAD 0, PUSH, LOAD 0, NEW 1 at 3, NEW 3 at 4
        CHECK.due("10: what waits below is there", x.map(3, 1), 1 + 4);
        CHECK.due("10: what it takes is there", x.map(4, 1), 1 + 2);
        int deep = pen.nil(1);
        for (int k = 0; k < 15; k++) {
            deep = pen.pair(1, one, deep);
        }
        x.body(0, pen.pair(3, deep, l));
        x.lay();
        CHECK.due("7: 16 values", x.laid(2), 16);
        CHECK.due("10: the highest bit", x.map(16, 1), 1 << 15);
        x.function(0, 2, 1, 0, 0);
        x.body(1, one);
        x.body(0, pen.then(pen.add(one, pen.call(1, l, one)), pen.nil(3)));
        x.lay();
        // PUSH, LOAD 0, PUSH, CALL at 3
        CHECK.due("10: of a CALL, among INTs", x.map(3, 1), 2);
        x.body(0, pen.then(pen.putRight(l, pen.choose(one, l, pen.pair(1, one, l))), pen.nil(3)));
        x.lay();
        // LOAD 0, PUSH, ZERO, LOAD 0, JUMP, PUSH, LOAD 0, NEW at 7
        CHECK.due("10: in the second way of an IF", x.map(7, 1), 1 + 4);
    }

    private static void deepBodies() {
        Loom x = fresh();
        Pen pen = new Pen(x);
        x.function(0, 0, 0, 0, 0);
        int deep = pen.number(3);
        for (int k = 1; k < 150; k++) {
            deep = pen.out(deep);
        }
        x.body(0, deep);
        CHECK.due("6: 150 nodes deep", x.lay(), 151);
        CHECK.due("7: one value", x.laid(2), 1);
        CHECK.due("13: run", x.run(0, 0, 0, 0), 1);
        CHECK.due("14: steps", x.latest(1), 151);
    }
}
