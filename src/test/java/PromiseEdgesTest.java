/** The boundary cases that the promises name, promise by promise; refused calls are in RefusalTest, too. */
public final class PromiseEdgesTest {
    private static final Check CHECK = new Check("PromiseEdgesTest");
    private static final int MIN = Integer.MIN_VALUE;
    private static final int MAX = Integer.MAX_VALUE;

    public static void main(String[] args) {
        newObject();
        typeRanges();
        typeLeavesWhatIsLaid();
        typesAreTakenAnew();
        functionRanges();
        nodeRanges();
        nodePartsItHasNot();
        bodyRanges();
        bodyLeavesWhatIsLaid();
        layWithoutABody();
        layFails();
        layForgetsTheRun();
        laidRanges();
        instructionRanges();
        instructionNumbers();
        instructionHasNoA();
        entryRanges();
        entryWithoutABody();
        mapRanges();
        heapRanges();
        heapInTheRunsThatCome();
        forceRanges();
        forceInTheRunsThatCome();
        runArguments();
        runTellsHowItWasOver();
        runRefuses();
        latestRanges();
        latestMost();
        latestNever();
        outRanges();
        tellRanges();
        tellBits();
        tellWithoutAResult();
        valueIsTold();
        CHECK.end();
    }

    private static Loom fresh() {
        Loom x = new Loom();
        x.type(1, 0, 1);
        x.type(2, 1, 0);
        return x;
    }

    private static int laidAs(Loom x, int result, int body) {
        int f = x.function(result, 0, 0, 0, 0);
        x.body(f, body);
        if (f < 0 || x.lay() < 0) {
            throw new IllegalStateException("the test wrote a body that can't be");
        }
        return f;
    }

    /** So many pairs that are lost at once. */
    private static int losing(Pen pen, int many) {
        int lost = pen.pair(1, pen.number(1), pen.nil(1));
        int made = lost;
        for (int k = 1; k < many; k++) {
            made = pen.then(lost, made);
        }
        return made;
    }

    private static void newObject() {
        CHECK.sentence("1: No functions, no nodes");
        Loom x = new Loom();
        CHECK.due("body(0, -1)", x.body(0, -1), false);
        CHECK.due("a CALL of function 0", x.node(12, 0, -1, 0), -1);
        CHECK.due("an OUT of node 0", x.node(16, 0, 0, 0), -1);
        CHECK.due("the first node", x.node(0, 0, 0, 0), 0);
        CHECK.due("the first function", x.function(0, 0, 0, 0, 0), 0);
        CHECK.sentence("1: a heap of 60 words");
        for (int many = 19; many <= 22; many++) {
            x = fresh();
            int f = laidAs(x, 1, losing(new Pen(x), many));
            CHECK.due(many + " lost pairs", x.run(f, 0, 0, 0), 1);
            CHECK.due(many + " lost pairs: collected", x.latest(2), many > 20 ? 1 : 0);
            CHECK.due(many + " lost pairs: words", x.latest(3), many > 20 ? 3 * (many - 20) : 3 * many);
        }
        CHECK.sentence("1: FORCE is 0");
        x = fresh();
        int f = laidAs(x, 1, losing(new Pen(x), 3));
        x.run(f, 0, 0, 0);
        CHECK.due("collected", x.latest(2), 0);
        CHECK.sentence("1: nothing is laid down");
        x = new Loom();
        CHECK.due("laid(0)", x.laid(0), -1);
        CHECK.due("laid(1)", x.laid(1), -1);
        CHECK.due("laid(2)", x.laid(2), -1);
        CHECK.due("entry(0)", x.entry(0), -1);
        CHECK.due("map(0, 0)", x.map(0, 0), -1);
        CHECK.due("instruction(0, 0)", thrown(x, 0, 0), 1);
        CHECK.due("run(0)", x.run(0, 0, 0, 0), -1);
        for (int what = 0; what <= 6; what++) {
            CHECK.due("latest(" + what + ")", x.latest(what), -1);
        }
        CHECK.due("out(0)", x.out(0), 0);
        CHECK.due("tell(0, 0)", x.tell(0, 0), -1);
        CHECK.due("value(0, 0)", x.value(0, 0), 0);
    }

    /** 1 for an index, 2 for an argument, 0 if nothing is thrown. */
    private static int thrown(Loom x, int i, int what) {
        try {
            x.instruction(i, what);
            return 0;
        } catch (IndexOutOfBoundsException e) {
            return 1;
        } catch (IllegalArgumentException e) {
            return 2;
        }
    }

    private static void typeRanges() {
        CHECK.sentence("2: true; false if it is not 1 .. 7, or they are not 0 .. 7");
        Loom x = new Loom();
        int[] tried = {MIN, -8, -1, 0, 1, 2, 6, 7, 8, 9, 15, MAX};
        for (int t : tried) {
            CHECK.due("type(" + t + ", 0, 0)", x.type(t, 0, 0), t >= 1 && t <= 7);
            CHECK.due("type(" + t + ", 7, 7)", x.type(t, 7, 7), t >= 1 && t <= 7);
            CHECK.due("type(1, " + t + ", 7)", x.type(1, t, 7), t >= 0 && t <= 7);
            CHECK.due("type(7, 0, " + t + ")", x.type(7, 0, t), t >= 0 && t <= 7);
            CHECK.due("type(4, " + t + ", " + t + ")", x.type(4, t, t), t >= 0 && t <= 7);
            CHECK.due("type(8, " + t + ", 0)", x.type(8, t, 0), false);
        }
        CHECK.sentence("2: A type's LEFT and RIGHT type are others");
        for (int t = 1; t <= 7; t++) {
            x = new Loom();
            Pen pen = new Pen(x);
            x.function(t, 0, 0, 0, 0);
            x.type(t, t, 0);
            x.body(0, pen.left(pen.nil(t)));
            CHECK.due("type " + t + ": its LEFT is itself", x.lay(), 3);
            x.body(0, pen.right(pen.nil(t)));
            CHECK.due("type " + t + ": its RIGHT is not", x.lay(), RootLoom.ILL);
            x.type(t, 0, t);
            CHECK.due("type " + t + ": its RIGHT is now", x.lay(), 3);
        }
    }

    private static void typeLeavesWhatIsLaid() {
        CHECK.sentence("2: (what is laid down stays as it is)");
        Loom x = fresh();
        Pen pen = new Pen(x);
        int f = laidAs(x, 2, pen.pair(2, pen.list(5, 6), pen.number(7)));
        x.run(f, 0, 0, 0);
        int[][] others = {{0, 0}, {1, 1}, {7, 7}, {0, 1}};
        for (int[] other : others) {
            CHECK.due("type(2)", x.type(2, other[0], other[1]), true);
            CHECK.due("type(1)", x.type(1, other[1], other[0]), true);
            CHECK.due("laid(0)", x.laid(0), 8);
            CHECK.due("a NEW's values", x.map(3, 1), 4);
            CHECK.due("the last NEW's values", x.map(6, 1), 1);
            CHECK.due("left", x.tell(0, 1), 2);
            CHECK.due("right", x.value(1, 1), 7);
            CHECK.due("left left", x.value(0, 2), 5);
            CHECK.due("left right left", x.value(2, 3), 6);
            CHECK.due("left right right", x.tell(6, 3), 1);
            CHECK.due("it runs as before", x.run(f, 0, 0, 0), 1);
        }
        CHECK.due("laid down anew it is ill", x.lay(), RootLoom.ILL);
    }

    /** Each kind that asks for a type's halves, ill and well typed in turn as the halves change. */
    private static void typesAreTakenAnew() {
        CHECK.sentence("6: All is laid down anew, with the types as they are");
        for (int way = 0; way < 12; way++) {
            Loom x = new Loom();
            Pen pen = new Pen(x);
            x.function(0, 0, 0, 0, 0);
            x.body(0, askingForHalves(pen, way));
            for (int turn = 0; turn < 8; turn++) {
                int left = turn & 1;
                int right = turn >> 1 & 1;
                x.type(3, 5 * left, 5 * right);
                boolean good = way < 4 ? left == way % 2 : way < 8 ? right == way % 2 : 2 * right + left == way - 8;
                int laid = x.lay();
                CHECK.due("way " + way + ", turn " + turn, good ? laid > 0 : laid == RootLoom.ILL, true);
            }
        }
    }

    /** Ways 0 to 3 ask for the left of type 3, 4 to 7 for its right, the odd ones for a 5, 8 to 11 for both. */
    private static int askingForHalves(Pen pen, int way) {
        int one = pen.number(1);
        int nil = pen.nil(3);
        int five = pen.nil(5);
        switch (way) {
            case 0: return pen.left(nil);
            case 1: return pen.empty(pen.left(nil));
            case 2: return pen.putLeft(nil, one);
            case 3: return pen.empty(pen.putLeft(nil, five));
            case 4: return pen.right(nil);
            case 5: return pen.empty(pen.right(nil));
            case 6: return pen.putRight(nil, one);
            case 7: return pen.empty(pen.putRight(nil, five));
            case 8: return pen.empty(pen.pair(3, one, one));
            case 9: return pen.empty(pen.pair(3, five, one));
            case 10: return pen.empty(pen.pair(3, one, five));
            default: return pen.empty(pen.pair(3, five, five));
        }
    }

    private static void functionRanges() {
        CHECK.sentence("3: its number; NONE if there are 6, or one can't be");
        int[] tried = {MIN, -1, 0, 7, 8, MAX};
        for (int t : tried) {
            boolean good = t == 0 || t == 7;
            Loom x = new Loom();
            CHECK.due("a result " + t, x.function(t, 0, 0, 0, 0), good ? 0 : -1);
            x = new Loom();
            CHECK.due("a first " + t, x.function(0, 1, t, 0, 0), good ? 0 : -1);
            x = new Loom();
            CHECK.due("a second " + t, x.function(0, 2, 0, t, 0), good ? 0 : -1);
            x = new Loom();
            CHECK.due("a third " + t, x.function(0, 3, 0, 0, t), good ? 0 : -1);
        }
        for (int many : new int[] {MIN, -1, 0, 1, 2, 3, 4, MAX}) {
            CHECK.due(many + " parameters", new Loom().function(0, many, 0, 0, 0), many >= 0 && many <= 3 ? 0 : -1);
        }
        CHECK.sentence("3: (of those that it has not, any)");
        for (int any : new int[] {MIN, -1, 8, MAX}) {
            Loom x = new Loom();
            CHECK.due("none, " + any, x.function(0, 0, any, any, any), 0);
            CHECK.due("one, " + any, x.function(0, 1, 0, any, any), 1);
            CHECK.due("two, " + any, x.function(0, 2, 0, 0, any), 2);
            CHECK.due("three, " + any, x.function(0, 3, 0, 0, any), -1);
            CHECK.due("two, the second " + any, x.function(0, 2, 0, any, 0), -1);
            CHECK.due("one, the first " + any, x.function(0, 1, any, 0, 0), -1);
        }
        Loom x = new Loom();
        for (int f = 0; f < 6; f++) {
            CHECK.due("function " + f, x.function(0, 0, 0, 0, 0), f);
        }
        CHECK.due("a seventh", x.function(0, 0, 0, 0, 0), -1);
    }

    private static void nodeRanges() {
        CHECK.sentence("4: Parts must be nodes that are there, expressions or ARGs as told (-1 where that may be)");
        Loom x = fresh();
        Pen pen = new Pen(x);
        x.function(0, 0, 0, 0, 0);
        int first = pen.number(1);
        CHECK.due("the first node", first, 0);
        CHECK.due("OUT of the last", x.node(16, 0, 0, 0), 1);
        CHECK.due("OUT of the one that it would be", x.node(16, 2, 0, 0), -1);
        CHECK.due("OUT of -1", x.node(16, -1, 0, 0), -1);
        CHECK.due("CALL with -1", x.node(12, 0, -1, 0), 2);
        CHECK.due("ARG with -1", x.node(13, 0, -1, 0), 3);
        CHECK.due("CALL with an ARG", x.node(12, 0, 3, 0), 4);
        CHECK.due("ARG with an ARG", x.node(13, 0, 3, 0), 5);
        CHECK.due("CALL with what would be itself", x.node(12, 0, 6, 0), -1);
        CHECK.due("ARG with what would be itself", x.node(13, 0, 6, 0), -1);
        CHECK.sentence("4: types 1 .. 7, locals 0 .. 7, functions that are there");
        int next = 6;
        for (int part : new int[] {MIN, -1, 0, 1, 7, 8, MAX}) {
            boolean type = part == 1 || part == 7;
            boolean local = type || part == 0;
            CHECK.due("NIL " + part, x.node(1, part, 0, 0), type ? next++ : -1);
            CHECK.due("PAIR " + part, x.node(6, part, 0, 0), type ? next++ : -1);
            CHECK.due("LOCAL " + part, x.node(2, part, 0, 0), local ? next++ : -1);
            CHECK.due("LET " + part, x.node(11, part, 0, 0), local ? next++ : -1);
            CHECK.due("CALL " + part, x.node(12, part, -1, 0), part == 0 ? next++ : -1);
        }
        CHECK.sentence("4: there is no such kind");
        for (int kind : new int[] {MIN, -1, 18, 19, MAX}) {
            CHECK.due("kind " + kind, x.node(kind, 0, 0, 0), -1);
        }
        CHECK.due("the next number", x.node(0, 0, 0, 0), next);
    }

    private static void nodePartsItHasNot() {
        CHECK.sentence("4: parts that the kind has not do not matter");
        int[][] kinds = {{0, 0, 3}, {1, 1, 2}, {2, 1, 2}, {3, 2, 1}, {4, 2, 1}, {5, 2, 1}, {7, 1, 2}, {8, 1, 2}, {9, 1, 2},
            {12, 2, 1}, {13, 2, 1}, {14, 2, 1}, {15, 2, 1}, {16, 1, 2}, {17, 2, 1}};
        for (int[] kind : kinds) {
            for (int any : new int[] {MIN, -2, 1, 77, MAX}) {
                Loom x = fresh();
                x.function(0, 0, 0, 0, 0);
                x.node(0, 1, 0, 0);
                x.node(13, 0, -1, 0);
                int a = kind[1] < 1 ? any : kind[0] == 1 ? 1 : 0;
                int b = kind[1] < 2 ? any : kind[0] == 12 || kind[0] == 13 ? 1 : 0;
                CHECK.due("kind " + kind[0] + " with " + any, x.node(kind[0], a, b, any), 2);
            }
        }
    }

    private static void bodyRanges() {
        CHECK.sentence("5: an expression, or none (-1): true; false if there is no such function or expression");
        Loom x = fresh();
        for (int f = 0; f < 3; f++) {
            x.function(0, 0, 0, 0, 0);
        }
        x.node(0, 1, 0, 0);
        x.node(13, 0, -1, 0);
        x.node(0, 2, 0, 0);
        for (int f : new int[] {MIN, -1, 0, 2, 3, 5, 6, MAX}) {
            for (int n : new int[] {MIN, -2, -1, 0, 1, 2, 3, 149, MAX}) {
                boolean good = (f == 0 || f == 2) && (n == -1 || n == 0 || n == 2);
                CHECK.due("body(" + f + ", " + n + ")", x.body(f, n), good);
            }
        }
        CHECK.due("the last good ones stand", x.lay(), 4);
        x.run(2, 0, 0, 0);
        CHECK.due("as they were given", x.value(0, 0), 2);
    }

    private static void bodyLeavesWhatIsLaid() {
        CHECK.sentence("5: (What is laid down stays.)");
        Loom x = fresh();
        Pen pen = new Pen(x);
        int f = laidAs(x, 0, pen.out(pen.number(5)));
        x.run(f, 0, 0, 0);
        for (int body : new int[] {pen.number(6), pen.nil(1), -1}) {
            CHECK.due("body", x.body(f, body), true);
            CHECK.due("laid(0)", x.laid(0), 3);
            CHECK.due("entry", x.entry(f), 0);
            CHECK.due("instruction", x.instruction(0, 1), 5);
            CHECK.due("the latest run", x.value(0, 0), 5);
            CHECK.due("what it put out", x.out(0), 5);
            CHECK.due("it runs", x.run(f, 0, 0, 0), 1);
            CHECK.due("as before", x.value(0, 0), 5);
        }
        CHECK.due("laid down anew", x.lay(), 0);
        CHECK.due("it has no entry", x.entry(f), -1);
    }

    private static void layWithoutABody() {
        CHECK.sentence("6: how many instructions (0 without a BODY)");
        Loom x = fresh();
        CHECK.due("no function", x.lay(), 0);
        for (int f = 0; f < 6; f++) {
            x.function(0, 0, 0, 0, 0);
            CHECK.due(f + 1 + " functions", x.lay(), 0);
        }
        for (int what = 0; what <= 2; what++) {
            CHECK.due("laid(" + what + ")", x.laid(what), 0);
        }
        CHECK.due("the smallest BODY", x.body(5, x.node(0, 0, 0, 0)), true);
        CHECK.due("two instructions", x.lay(), 2);
        x.body(5, -1);
        CHECK.due("none again", x.lay(), 0);
        CHECK.due("laid(0)", x.laid(0), 0);
        CHECK.due("laid(2)", x.laid(2), 0);
    }

    private static void layFails() {
        CHECK.sentence("6: TOO_LARGE or ILL, and nothing is laid down then");
        for (int fault = 0; fault < 3; fault++) {
            Loom x = fresh();
            Pen pen = new Pen(x);
            int one = pen.number(1);
            int good = pen.left(pen.pair(1, one, pen.nil(1)));
            int deep = one;
            for (int k = 0; k < 16; k++) {
                deep = pen.add(one, deep);
            }
            int[] bad = {pen.nil(1), pen.out(pen.sum(one, 200)), deep};
            int f = laidAs(x, 0, good);
            x.run(f, 0, 0, 0);
            x.body(f, bad[fault]);
            for (int again = 0; again < 2; again++) {
                CHECK.due("lay()", x.lay(), fault == 0 ? RootLoom.ILL : RootLoom.TOO_LARGE);
                CHECK.due("laid(0)", x.laid(0), -1);
                CHECK.due("laid(1)", x.laid(1), -1);
                CHECK.due("laid(2)", x.laid(2), -1);
                CHECK.due("entry", x.entry(f), -1);
                CHECK.due("instruction", thrown(x, 0, 0), 1);
                CHECK.due("map(2, 0)", x.map(2, 0), -1);
                CHECK.due("map(2, 1)", x.map(2, 1), -1);
                CHECK.due("run", x.run(f, 0, 0, 0), -1);
                CHECK.due("latest(0)", x.latest(0), -1);
            }
            x.body(f, good);
            CHECK.due("what was written is still there", x.lay(), 5);
            CHECK.due("and runs", x.run(f, 0, 0, 0), 1);
        }
    }

    private static void layForgetsTheRun() {
        CHECK.sentence("6: (There is no latest run any more.)");
        Loom x = fresh();
        Pen pen = new Pen(x);
        int good = pen.out(pen.number(5));
        int f = laidAs(x, 0, good);
        int[] bodies = {good, pen.nil(1), pen.out(pen.sum(pen.number(1), 200)), -1};
        int[] want = {3, RootLoom.ILL, RootLoom.TOO_LARGE, 0};
        for (int k = 0; k < bodies.length; k++) {
            x.body(f, good);
            x.lay();
            CHECK.due("run", x.run(f, 0, 0, 0), 1);
            x.body(f, bodies[k]);
            CHECK.due("the run is still there", x.latest(0), 1);
            CHECK.due("lay()", x.lay(), want[k]);
            for (int what = 0; what <= 6; what++) {
                CHECK.due("latest(" + what + ")", x.latest(what), -1);
            }
            CHECK.due("out(0)", x.out(0), 0);
            CHECK.due("tell(0, 0)", x.tell(0, 0), -1);
            CHECK.due("value(0, 0)", x.value(0, 0), 0);
        }
    }

    private static void laidRanges() {
        CHECK.sentence("7: NONE if nothing is, or for another what");
        Loom x = fresh();
        Pen pen = new Pen(x);
        for (int what : new int[] {MIN, -1, 0, 1, 2, 3, MAX}) {
            CHECK.due("nothing is: laid(" + what + ")", x.laid(what), -1);
        }
        laidAs(x, 1, pen.list(1, 2, 3));
        int[] want = {8, 3, 4};
        for (int what : new int[] {MIN, -1, 0, 1, 2, 3, MAX}) {
            CHECK.due("laid(" + what + ")", x.laid(what), what >= 0 && what <= 2 ? want[what] : -1);
        }
        CHECK.sentence("7: 1: how many NEWs and CALLs");
        x.function(0, 0, 0, 0, 0);
        x.body(1, pen.call(1));
        x.lay();
        CHECK.due("three NEWs and a CALL", x.laid(1), 4);
        x.body(0, -1);
        x.lay();
        CHECK.due("a CALL", x.laid(1), 1);
        x.body(1, pen.number(1));
        x.lay();
        CHECK.due("none", x.laid(1), 0);
    }

    private static void instructionRanges() {
        CHECK.sentence("8: IndexOutOfBoundsException if there is none such; IllegalArgumentException for another what");
        Loom x = fresh();
        Pen pen = new Pen(x);
        CHECK.due("nothing is laid down", thrown(x, 0, 0), 1);
        CHECK.due("none is laid down: lay()", x.lay(), 0);
        CHECK.due("none is laid down", thrown(x, 0, 0), 1);
        int f = laidAs(x, 0, pen.sum(pen.number(1), 200));
        for (int i : new int[] {MIN, -400, -1, 0, 1, 398, 399, 400, 401, MAX}) {
            boolean there = i >= 0 && i < 400;
            CHECK.due("instruction(" + i + ", 0)", thrown(x, i, 0), there ? 0 : 1);
            CHECK.due("instruction(" + i + ", 1)", thrown(x, i, 1), there ? 0 : 1);
        }
        for (int what : new int[] {MIN, -1, 0, 1, 2, MAX}) {
            boolean good = what == 0 || what == 1;
            CHECK.due("instruction(0, " + what + ")", thrown(x, 0, what), good ? 0 : 2);
            CHECK.due("instruction(399, " + what + ")", thrown(x, 399, what), good ? 0 : 2);
        }
        CHECK.due("the 400th is a RET", x.instruction(399, 0), 14);
        x.body(f, pen.number(1));
        x.lay();
        CHECK.due("the last of two", thrown(x, 1, 0), 0);
        CHECK.due("what was laid down before is gone", thrown(x, 2, 0), 1);
    }

    /** One body for each operation that stands alone in it, at its place. */
    private static void instructionNumbers() {
        CHECK.sentence("8: its number: 0 PUSH, 1 NULL, 2 LOAD, 3 ADD, 4 SUB, 5 LESS, 6 NEW, 7 LEFT, 8 RIGHT, 9 EMPTY, "
                + "10 ZERO, 11 JUMP, 12 STORE, 13 CALL, 14 RET, 15 PUTLEFT, 16 PUTRIGHT, 17 PUT, 18 DROP");
        Loom x = fresh();
        Pen pen = new Pen(x);
        x.function(0, 1, 0, 0, 0);
        int one = pen.number(1);
        int nil = pen.nil(1);
        int two = pen.nil(2);
        int branch = pen.choose(one, one, one);
        int[] bodies = {one, pen.empty(nil), pen.local(0), pen.add(one, one), pen.sub(one, one), pen.less(one, one),
            pen.left(pen.pair(1, one, nil)), pen.left(nil), pen.right(two), pen.empty(nil), branch, branch,
            pen.let(3, one, one), pen.call(0, one), one, pen.putLeft(nil, one), pen.putRight(two, one), pen.out(one),
            pen.then(one, one)};
        int[] places = {0, 0, 0, 2, 2, 2, 2, 1, 1, 1, 1, 3, 1, 1, 1, 2, 2, 1, 1};
        for (int operation = 0; operation < 19; operation++) {
            x.body(0, bodies[operation]);
            CHECK.due("lay() for " + operation, x.lay() > 0, true);
            CHECK.due("operation " + operation, x.instruction(places[operation], 0), operation);
        }
    }

    private static void instructionHasNoA() {
        CHECK.sentence("8: 1: its a, or where it goes to; 0 if it has none (NULL, too)");
        Loom x = fresh();
        Pen pen = new Pen(x);
        x.function(0, 3, 7, 7, 7);
        x.function(0, 0, 0, 0, 0);
        int seven = pen.nil(7);
        int five = pen.number(5);
        int made = pen.pair(7, five, five);
        int sums = pen.less(pen.sub(pen.add(five, five), five), five);
        int puts = pen.add(pen.putLeft(made, five), pen.putRight(made, five));
        int reads = pen.add(pen.left(pen.local(2)), pen.right(pen.local(6)));
        int body = pen.let(6, seven, pen.choose(pen.empty(seven), pen.then(sums, pen.out(puts)), reads));
        x.body(0, body);
        x.body(1, pen.call(0, seven, seven, seven));
        int count = x.lay();
        boolean[] seen = new boolean[19];
        for (int i = 0; i < count; i++) {
            int operation = x.instruction(i, 0);
            int a = x.instruction(i, 1);
            seen[operation] = true;
            boolean has = operation == 0 || operation == 2 || operation == 6 || operation == 10 || operation == 11
                    || operation == 12;
            CHECK.due("operation " + operation + " at " + i + " has an a", a != 0, has);
        }
        for (int operation = 0; operation < 19; operation++) {
            CHECK.due("operation " + operation + " was seen", seen[operation], true);
        }
        CHECK.due("CALL 0 has an a, which is 0", x.instruction(count - 2, 1), 0);
        x.body(1, pen.call(1));
        x.lay();
        CHECK.due("CALL 1 has an a, which is 1", x.instruction(x.entry(1), 1), 1);
        x.body(1, pen.let(0, pen.number(0), pen.local(0)));
        x.lay();
        CHECK.due("PUSH 0", x.instruction(x.entry(1), 1), 0);
        CHECK.due("STORE 0", x.instruction(x.entry(1) + 1, 1), 0);
        CHECK.due("LOAD 0", x.instruction(x.entry(1) + 2, 1), 0);
    }

    private static void entryRanges() {
        CHECK.sentence("9: NONE if nothing is laid down, or there is none such");
        Loom x = fresh();
        Pen pen = new Pen(x);
        int one = pen.number(1);
        for (int f = 0; f < 6; f++) {
            x.function(0, 0, 0, 0, 0);
            x.body(f, one);
        }
        for (int f : new int[] {MIN, -1, 0, 5, 6, MAX}) {
            CHECK.due("nothing is: entry(" + f + ")", x.entry(f), -1);
        }
        x.lay();
        for (int f : new int[] {MIN, -1, 0, 5, 6, MAX}) {
            CHECK.due("entry(" + f + ")", x.entry(f), f == 0 || f == 5 ? 2 * f : -1);
        }
        Loom y = fresh();
        y.function(0, 0, 0, 0, 0);
        y.body(0, y.node(0, 1, 0, 0));
        y.lay();
        CHECK.due("function 1 is not there", y.entry(1), -1);
        y.function(0, 0, 0, 0, 0);
        y.body(1, 0);
        CHECK.due("function 1 is there, but not laid down", y.entry(1), -1);
        CHECK.due("nor does it run", y.run(1, 0, 0, 0), -1);
    }

    private static void entryWithoutABody() {
        CHECK.sentence("9: or it had no BODY");
        Loom x = fresh();
        Pen pen = new Pen(x);
        int one = pen.number(1);
        x.function(0, 0, 0, 0, 0);
        x.function(0, 0, 0, 0, 0);
        x.body(1, one);
        x.lay();
        CHECK.due("the first had none", x.entry(0), -1);
        CHECK.due("the second begins at 0", x.entry(1), 0);
        x.body(0, one);
        CHECK.due("it has one now, but had none", x.entry(0), -1);
        CHECK.due("and does not run", x.run(0, 0, 0, 0), -1);
        x.body(1, -1);
        CHECK.due("it has none now, but had one", x.entry(1), 0);
        CHECK.due("and runs", x.run(1, 0, 0, 0), 1);
    }

    private static void mapRanges() {
        CHECK.sentence("10: NONE if it is no NEW or CALL, or there is none such, or for another which");
        Loom x = fresh();
        Pen pen = new Pen(x);
        int f = x.function(1, 0, 0, 0, 0);
        CHECK.due("nothing is laid down", x.map(0, 0), -1);
        x.body(f, pen.call(f));
        CHECK.due("a CALL and a RET", x.lay(), 2);
        for (int i : new int[] {MIN, -1, 0, 1, 2, 399, 400, MAX}) {
            CHECK.due("map(" + i + ", 0)", x.map(i, 0), i == 0 ? 0 : -1);
            CHECK.due("map(" + i + ", 1)", x.map(i, 1), i == 0 ? 0 : -1);
        }
        for (int which : new int[] {MIN, -1, 0, 1, 2, 3, MAX}) {
            CHECK.due("map(0, " + which + ")", x.map(0, which), which == 0 || which == 1 ? 0 : -1);
        }
        x.body(f, pen.list(1));
        x.lay();
        // PUSH, NULL, NEW, RET
        for (int i = -1; i <= 4; i++) {
            CHECK.due("of a NEW: map(" + i + ", 0)", x.map(i, 0), i == 2 ? 0 : -1);
            CHECK.due("of a NEW: map(" + i + ", 1)", x.map(i, 1), i == 2 ? 2 : -1);
        }
        x.body(f, -1);
        x.lay();
        CHECK.due("none is laid down", x.map(2, 1), -1);
    }

    private static void heapRanges() {
        CHECK.sentence("11: true; false if they are not 3 .. 600");
        Loom x = fresh();
        for (int words : new int[] {MIN, -3, 0, 1, 2, 3, 4, 599, 600, 601, 603, MAX}) {
            CHECK.due("heap(" + words + ")", x.heap(words), words >= 3 && words <= 600);
        }
        Pen pen = new Pen(x);
        int f = laidAs(x, 1, losing(pen, 3));
        x.heap(3);
        CHECK.due("the least: one pair", x.run(f, 0, 0, 0), 1);
        CHECK.due("collected for the second and the third", x.latest(2), 2);
    }

    private static void heapInTheRunsThatCome() {
        CHECK.sentence("11: in the runs that come");
        Loom x = fresh();
        Pen pen = new Pen(x);
        int f = laidAs(x, 1, pen.list(1, 2, 3));
        CHECK.due("run", x.run(f, 0, 0, 0), 1);
        x.heap(3);
        CHECK.due("the latest run stays", x.latest(0), 1);
        CHECK.due("with its words", x.latest(3), 9);
        CHECK.due("and its RESULT", x.tell(7, 3), 1);
        for (int k = 0; k < 2; k++) {
            CHECK.due("the next ones have 3", x.run(f, 0, 0, 0), 3);
        }
        x.lay();
        CHECK.due("laid down anew, still 3", x.run(f, 0, 0, 0), 3);
        x.heap(9);
        CHECK.due("the latest run stays", x.latest(0), 3);
        CHECK.due("the next has 9", x.run(f, 0, 0, 0), 1);
    }

    private static void forceRanges() {
        CHECK.sentence("12: true; false if n is below 0");
        Loom x = fresh();
        for (int n : new int[] {MIN, -2, -1, 0, 1, 2, 6000, MAX}) {
            CHECK.due("force(" + n + ")", x.force(n), n >= 0);
        }
    }

    private static void forceInTheRunsThatCome() {
        CHECK.sentence("12: in the runs that come");
        Loom x = fresh();
        Pen pen = new Pen(x);
        int f = laidAs(x, 1, pen.list(1, 2, 3));
        x.run(f, 0, 0, 0);
        x.force(1);
        CHECK.due("the latest run stays", x.latest(2), 0);
        x.run(f, 0, 0, 0);
        CHECK.due("the next is collected", x.latest(2), 3);
        x.lay();
        x.run(f, 0, 0, 0);
        CHECK.due("laid down anew, still", x.latest(2), 3);
        x.force(0);
        CHECK.due("the latest run stays", x.latest(2), 3);
        x.run(f, 0, 0, 0);
        CHECK.due("the next is not collected", x.latest(2), 0);
        CHECK.due("nothing stayed, for it never was", x.latest(4), 0);
    }

    private static void runArguments() {
        CHECK.sentence("13: with INTs as arguments (of those that it has not, any)");
        Loom x = fresh();
        Pen pen = new Pen(x);
        for (int many = 0; many <= 3; many++) {
            x.function(0, many, 0, 0, 0);
        }
        int[] locals = {pen.local(0), pen.local(1), pen.local(2)};
        x.body(0, pen.number(5));
        for (int many = 1; many <= 3; many++) {
            x.body(many, locals[many - 1]);
        }
        x.lay();
        for (int v : new int[] {MIN, -1, 0, 1, MAX}) {
            CHECK.due("no parameter: run", x.run(0, v, v, v), 1);
            CHECK.due("no parameter: value", x.value(0, 0), 5);
            for (int many = 1; many <= 3; many++) {
                int first = many == 1 ? v : 7;
                int second = many == 2 ? v : many < 2 ? MIN : 8;
                int third = many == 3 ? v : MAX;
                CHECK.due(many + " parameters: run", x.run(many, first, second, third), 1);
                CHECK.due(many + " parameters: the last", x.value(0, 0), v);
            }
        }
    }

    private static void runTellsHowItWasOver() {
        CHECK.sentence("13: how it was over, 1 .. 5");
        Loom x = fresh();
        Pen pen = new Pen(x);
        x.function(0, 1, 0, 0, 0);
        int n = pen.local(0);
        int deeper = pen.call(0, pen.sub(n, pen.number(1)));
        x.body(0, pen.choose(n, pen.add(deeper, deeper), pen.number(1)));
        int byNil = laidAs(x, 0, pen.right(pen.nil(2)));
        int byHeap = laidAs(x, 1, pen.list(1, 2));
        x.heap(5);
        int[][] runs = {{0, 0}, {byNil, 0}, {byHeap, 0}, {0, 24}, {0, 23}};
        for (int over = 1; over <= 5; over++) {
            CHECK.due("over by " + over, x.run(runs[over - 1][0], runs[over - 1][1], 0, 0), over);
            CHECK.due("over by " + over + ": latest(0)", x.latest(0), over);
        }
    }

    private static void runRefuses() {
        CHECK.sentence("13: NONE, and nothing happens, if it has no first instruction, or a parameter of a pair type");
        Loom x = fresh();
        Pen pen = new Pen(x);
        int five = pen.out(pen.number(5));
        int[][] parameters = {{3, 0, 0, 0}, {1, 1, 0, 0}, {2, 0, 7, 0}, {3, 0, 0, 1}, {2, 0, 0, 7}, {0, 1, 1, 1}};
        for (int[] p : parameters) {
            x.body(x.function(0, p[0], p[1], p[2], p[3]), five);
        }
        x.body(0, -1);
        x.lay();
        boolean[] runs = {false, false, false, false, true, true};
        CHECK.due("run(4)", x.run(4, 1, 2, 3), 1);
        for (int f = 0; f < 6; f++) {
            if (!runs[f]) {
                CHECK.due("run(" + f + ")", x.run(f, 0, 0, 0), -1);
                CHECK.due("the latest run stays", x.latest(0), 1);
                CHECK.due("with its steps", x.latest(1), 3);
                CHECK.due("with what it put out", x.out(0), 5);
                CHECK.due("with its RESULT", x.value(0, 0), 5);
            }
        }
        CHECK.due("types that it has not do not count", x.run(5, 0, 0, 0), 1);
        for (int f : new int[] {MIN, -1, 6, MAX}) {
            CHECK.due("run(" + f + ")", x.run(f, 0, 0, 0), -1);
        }
        Loom y = fresh();
        y.function(0, 0, 0, 0, 0);
        y.body(0, y.node(0, 1, 0, 0));
        CHECK.due("nothing is laid down", y.run(0, 0, 0, 0), -1);
        CHECK.due("no run was there", y.latest(0), -1);
        y.lay();
        CHECK.due("laid down", y.run(0, 0, 0, 0), 1);
    }

    private static void latestRanges() {
        CHECK.sentence("14: NONE if there was none, or for another what");
        Loom x = fresh();
        Pen pen = new Pen(x);
        int f = laidAs(x, 1, pen.then(pen.out(pen.number(1)), pen.list(1, 2)));
        int[] all = {MIN, -1, 0, 1, 2, 3, 4, 5, 6, 7, 8, MAX};
        for (int what : all) {
            CHECK.due("no run: latest(" + what + ")", x.latest(what), -1);
        }
        CHECK.due("a refused run", x.run(5, 0, 0, 0), -1);
        CHECK.due("is none", x.latest(0), -1);
        x.force(2);
        x.run(f, 0, 0, 0);
        int[] want = {1, 9, 1, 6, 3, 1, 1};
        for (int what : all) {
            CHECK.due("latest(" + what + ")", x.latest(what), what >= 0 && what <= 6 ? want[what] : -1);
        }
    }

    private static void latestMost() {
        CHECK.sentence("14: 5: the most frames at once");
        Loom x = fresh();
        Pen pen = new Pen(x);
        x.function(0, 1, 0, 0, 0);
        int n = pen.local(0);
        x.body(0, pen.choose(n, pen.out(pen.call(0, pen.sub(n, pen.number(1)))), n));
        int f = laidAs(x, 0, pen.add(pen.call(0, pen.number(3)), pen.call(0, pen.number(1))));
        CHECK.due("run", x.run(f, 0, 0, 0), 1);
        CHECK.due("five, then three: the most", x.latest(5), 5);
        for (int deep = 0; deep <= 23; deep++) {
            x.run(0, deep, 0, 0);
            CHECK.due("deep " + deep, x.latest(5), deep + 1);
        }
        x.run(0, 0, 0, 0);
        CHECK.due("one again", x.latest(5), 1);
        CHECK.sentence("14: 6: how many ints were put out (64 at most)");
        int g = laidAs(x, 0, pen.sum(pen.call(0, pen.number(16)), 4));
        CHECK.due("64 PUTs", x.run(g, 0, 0, 0), 1);
        CHECK.due("64 were put out", x.latest(6), 64);
        int h = laidAs(x, 0, pen.out(pen.sum(pen.call(0, pen.number(16)), 4)));
        CHECK.due("65 PUTs", x.run(h, 0, 0, 0), 1);
        CHECK.due("64 at most", x.latest(6), 64);
        int i = laidAs(x, 0, pen.sum(pen.call(0, pen.number(21)), 3));
        CHECK.due("63 PUTs", x.run(i, 0, 0, 0), 1);
        CHECK.due("63 were put out", x.latest(6), 63);
        x.run(0, 0, 0, 0);
        CHECK.due("none", x.latest(6), 0);
    }

    private static void latestNever() {
        CHECK.sentence("14: 4: those that stayed when it was collected latest (0 if never)");
        Loom x = fresh();
        Pen pen = new Pen(x);
        int f = laidAs(x, 1, pen.list(1, 2, 3));
        x.run(f, 0, 0, 0);
        CHECK.due("never", x.latest(4), 0);
        int[] stayed = {6, 3, 6, 0};
        for (int n = 1; n <= 4; n++) {
            x.force(n);
            x.run(f, 0, 0, 0);
            CHECK.due("FORCE " + n, x.latest(4), stayed[n - 1]);
            CHECK.due("the words at its end", x.latest(3), 9);
        }
        CHECK.sentence("14: 3: the words of PAIRs that were there at its end");
        x.force(0);
        int g = laidAs(x, 0, pen.then(losing(pen, 3), pen.number(1)));
        x.run(g, 0, 0, 0);
        CHECK.due("lost ones that were not collected are there", x.latest(3), 9);
        int h = laidAs(x, 0, pen.number(1));
        x.run(h, 0, 0, 0);
        CHECK.due("none", x.latest(3), 0);
    }

    private static void outRanges() {
        CHECK.sentence("15: The i-th int, from 0 on, that the latest run put out; 0 if there is none");
        Loom x = fresh();
        Pen pen = new Pen(x);
        int f = laidAs(x, 0, pen.out(pen.add(pen.out(pen.number(MIN)), pen.out(pen.number(MAX)))));
        CHECK.due("no run", x.out(0), 0);
        x.run(f, 0, 0, 0);
        int[] want = {MIN, MAX, -1};
        for (int i : new int[] {MIN, -1, 0, 1, 2, 3, 63, 64, MAX}) {
            CHECK.due("out(" + i + ")", x.out(i), i >= 0 && i < 3 ? want[i] : 0);
        }
        int g = laidAs(x, 0, pen.number(1));
        CHECK.due("laid down anew", x.out(0), 0);
        x.run(f, 0, 0, 0);
        x.run(g, 0, 0, 0);
        CHECK.due("a run that puts nothing out", x.out(0), 0);
        int h = laidAs(x, 0, pen.left(pen.pair(1, pen.out(pen.number(8)), pen.right(pen.nil(1)))));
        x.run(f, 0, 0, 0);
        CHECK.due("a run that is over by NIL", x.run(h, 0, 0, 0), 2);
        CHECK.due("what it put out before", x.out(0), 8);
        CHECK.due("nothing of the run before", x.out(1), 0);
    }

    /** A list of so many in the RESULT. */
    private static Loom withList(int many) {
        Loom x = fresh();
        Pen pen = new Pen(x);
        x.function(1, 1, 0, 0, 0);
        int n = pen.local(0);
        x.body(0, pen.choose(n, pen.pair(1, n, pen.call(0, pen.sub(n, pen.number(1)))), pen.nil(1)));
        x.lay();
        x.heap(600);
        CHECK.due("run", x.run(0, many, 0, 0), 1);
        return x;
    }

    private static void tellRanges() {
        CHECK.sentence("16: NONE if ... n is not 0 .. 20");
        Loom x = withList(22);
        for (int n : new int[] {MIN, -1, 0, 1, 19, 20, 21, 22, 32, MAX}) {
            CHECK.due("tell(-1, " + n + ")", x.tell(-1, n), n >= 0 && n <= 20 ? 2 : -1);
        }
        CHECK.due("20 steps, the last to the left", x.value((1 << 19) - 1, 20), 3);
        CHECK.due("21 steps, the last to the left", x.tell((1 << 20) - 1, 21), -1);
        CHECK.sentence("16: or a step begins at an INT or NIL");
        x = withList(19);
        CHECK.due("19 steps come to NIL", x.tell(-1, 19), 1);
        CHECK.due("the 20th begins there, to the right", x.tell(-1, 20), -1);
        CHECK.due("the 20th begins there, to the left", x.tell((1 << 19) - 1, 20), -1);
        CHECK.due("18 to the right, one to the left", x.tell((1 << 18) - 1, 19), 0);
        CHECK.due("the next begins at an INT, to the left", x.tell((1 << 18) - 1, 20), -1);
        CHECK.due("the next begins at an INT, to the right", x.tell((1 << 18) - 1 + (1 << 19), 20), -1);
        CHECK.due("the first comes to an INT", x.tell(0, 1), 0);
        for (int n = 2; n <= 20; n++) {
            CHECK.due("no step from there, " + n, x.tell(-2, n), -1);
        }
    }

    private static void tellBits() {
        CHECK.sentence("16: step k, from 0 on, to the right if bit k of path is set, else to the left");
        Loom x = new Loom();
        Pen pen = new Pen(x);
        x.type(1, 2, 2);
        x.type(2, 3, 3);
        int[] pairs = new int[4];
        for (int k = 0; k < 4; k++) {
            pairs[k] = pen.pair(3, pen.number(100 + 2 * k), pen.number(101 + 2 * k));
        }
        int pair = pen.pair(1, pen.pair(2, pairs[0], pairs[1]), pen.pair(2, pairs[2], pairs[3]));
        int f = laidAs(x, 1, pair);
        CHECK.due("run", x.run(f, 0, 0, 0), 1);
        for (int path = 0; path < 8; path++) {
            int want = 100 + (path & 1) * 4 + (path >> 1 & 1) * 2 + (path >> 2 & 1);
            CHECK.due("tell(" + path + ", 3)", x.tell(path, 3), 0);
            CHECK.due("value(" + path + ", 3)", x.value(path, 3), want);
            CHECK.due("bits behind the steps do not count", x.value(path | MIN | 8 | 1 << 20, 3), want);
            CHECK.due("tell(" + path + ", 2)", x.tell(path, 2), 2);
            CHECK.due("tell(" + path + ", 4)", x.tell(path, 4), -1);
        }
        CHECK.sentence("16: 0 if it comes to an INT, 1 to NIL, 2 to a PAIR");
        x = fresh();
        pen = new Pen(x);
        int[] bodies = {pen.number(1), pen.nil(1), pen.list(1)};
        for (int t = 0; t < 3; t++) {
            int g = laidAs(x, t == 0 ? 0 : 1, bodies[t]);
            x.run(g, 0, 0, 0);
            CHECK.due("no steps to " + t, x.tell(0, 0), t);
            CHECK.due("no steps, any path, to " + t, x.tell(-1, 0), t);
            CHECK.due("one step from " + t, x.tell(0, 1), t == 2 ? 0 : -1);
            CHECK.due("one step to the right from " + t, x.tell(1, 1), t == 2 ? 1 : -1);
        }
        int zero = laidAs(x, 0, pen.number(0));
        x.run(zero, 0, 0, 0);
        CHECK.due("an INT that is 0", x.tell(0, 0), 0);
    }

    private static void tellWithoutAResult() {
        CHECK.sentence("16: NONE if there is no latest run that was over by 1");
        Loom x = fresh();
        Pen pen = new Pen(x);
        int n = pen.local(0);
        int one = pen.number(1);
        x.function(0, 1, 0, 0, 0);
        int deeper = pen.call(0, pen.sub(n, one));
        x.body(0, pen.choose(n, pen.add(deeper, deeper), one));
        int byNil = laidAs(x, 0, pen.left(pen.nil(1)));
        int byHeap = laidAs(x, 1, pen.list(1, 2));
        x.heap(3);
        CHECK.due("no run: tell", x.tell(0, 0), -1);
        int[][] runs = {{byNil, 0, 2}, {byHeap, 0, 3}, {0, 30, 4}, {0, 22, 5}};
        for (int[] run : runs) {
            CHECK.due("a good run", x.run(0, 2, 0, 0), 1);
            CHECK.due("a good run: tell", x.tell(0, 0), 0);
            CHECK.due("a good run: value", x.value(0, 0), 4);
            CHECK.due("run", x.run(run[0], run[1], 0, 0), run[2]);
            CHECK.due("over by " + run[2] + ": tell", x.tell(0, 0), -1);
            CHECK.due("over by " + run[2] + ": value", x.value(0, 0), 0);
        }
    }

    private static void valueIsTold() {
        CHECK.sentence("17: The INT there; 0 if tell is not 0");
        Loom x = new Loom();
        Pen pen = new Pen(x);
        x.type(2, 0, 1);
        int f = laidAs(x, 2, pen.pair(2, pen.number(MIN), pen.pair(1, pen.number(MAX), pen.number(0))));
        int g = laidAs(x, 2, pen.pair(2, pen.number(-1), pen.nil(1)));
        CHECK.due("no run", x.value(0, 0), 0);
        x.run(f, 0, 0, 0);
        CHECK.due("the least", x.value(0, 1), MIN);
        CHECK.due("the greatest", x.value(1, 2), MAX);
        CHECK.due("0", x.value(3, 2), 0);
        CHECK.due("a PAIR", x.value(0, 0), 0);
        CHECK.due("a PAIR inside", x.value(1, 1), 0);
        CHECK.due("a step begins at an INT", x.value(0, 2), 0);
        CHECK.due("n is -1", x.value(0, -1), 0);
        CHECK.due("n is 21", x.value(0, 21), 0);
        x.run(g, 0, 0, 0);
        CHECK.due("-1 is an INT", x.value(0, 1), -1);
        CHECK.due("NIL", x.value(1, 1), 0);
        CHECK.due("a step begins at NIL", x.value(1, 2), 0);
    }
}
