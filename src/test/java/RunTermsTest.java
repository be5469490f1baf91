/** 'Terms': RUN, FRAME, what is COLLECTED and when, how a run is over, steps, what is put out. */
public final class RunTermsTest {
    private static final Check CHECK = new Check("RunTermsTest");
    private static final int MIN = Integer.MIN_VALUE;
    private static final int MAX = Integer.MAX_VALUE;

    public static void main(String[] args) {
        oneFrame();
        framesOfTheirOwn();
        framesEnd();
        threeWords();
        stayByLocals();
        stayByValues();
        lastFrameByItsInstruction();
        othersByTheirCalls();
        whatTheCallTook();
        byLeftAndRight();
        intsLeadNowhere();
        typesAsAtLay();
        manyStay();
        multiplesOfForce();
        numberedFromOneOn();
        collectedOnce();
        collectedBefore();
        threeMoreAboveTheHeap();
        zero();
        overByResult();
        overByNil();
        overByHeap();
        overByFrames();
        overBySteps();
        overByStepsBeforeAllElse();
        beganIsAStep();
        putOut();
        CHECK.end();
    }

    /** Type 1 is (INT, 1), 2 is (1, INT), 3 is (1, 1). */
    private static Loom fresh() {
        Loom x = new Loom();
        x.type(1, 0, 1);
        x.type(2, 1, 0);
        x.type(3, 1, 1);
        return x;
    }

    /** One function more, with that body; all is laid down. */
    private static int laidAs(Loom x, int result, int body) {
        int f = x.function(result, 0, 0, 0, 0);
        x.body(f, body);
        if (f < 0 || x.lay() < 0) {
            throw new IllegalStateException("the test wrote a body that can't be");
        }
        return f;
    }

    /** How it was over, steps, collections, words at the end, words that stayed, frames, ints put out. */
    private static void runs(String name, Loom x, int f, int... want) {
        CHECK.due(name + ": run", x.run(f, 0, 0, 0), want[0]);
        for (int what = 0; what < want.length; what++) {
            CHECK.due(name + ": latest(" + what + ")", x.latest(what), want[what]);
        }
    }

    private static void stayed(String name, Loom x, int f, int collections, int words) {
        CHECK.due(name + ": run", x.run(f, 0, 0, 0), 1);
        CHECK.due(name + ": collected", x.latest(2), collections);
        CHECK.due(name + ": words that stayed", x.latest(4), words);
    }

    private static void oneFrame() {
        CHECK.sentence("A RUN begins at a function, with one FRAME: its locals, and a pile");
        Loom x = fresh();
        Pen pen = new Pen(x);
        int f = laidAs(x, 0, pen.number(3));
        int g = laidAs(x, 0, pen.number(4));
        runs("the first function", x, f, 1, 2, 0, 0, 0, 1, 0);
        CHECK.due("its result", x.value(0, 0), 3);
        runs("the second function", x, g, 1, 2, 0, 0, 0, 1, 0);
        CHECK.due("its result", x.value(0, 0), 4);
    }

    private static void framesOfTheirOwn() {
        CHECK.sentence("CALL makes a frame, which has the arguments as its first locals");
        Loom x = fresh();
        Pen pen = new Pen(x);
        x.function(0, 3, 0, 0, 0);
        int digits = pen.add(pen.sum(pen.local(0), 16), pen.add(pen.sum(pen.local(1), 4), pen.local(2)));
        // The called one stores into locals that its caller has, too.
        x.body(0, pen.let(3, digits, pen.let(7, pen.number(0), pen.local(3))));
        int call = pen.call(0, pen.number(3), pen.number(2), pen.number(1));
        int sum = pen.add(pen.local(3), pen.add(pen.local(7), pen.local(0)));
        int body = pen.let(0, pen.number(1000), pen.let(3, pen.number(2000), pen.let(7, pen.number(4000),
                pen.add(pen.number(8000), pen.add(call, sum)))));
        int f = laidAs(x, 0, body);
        CHECK.due("run", x.run(f, 0, 0, 0), 1);
        CHECK.due("arguments, locals and values of each", x.value(0, 0), 15000 + 48 + 8 + 1);
    }

    private static void framesEnd() {
        CHECK.sentence("RET ends it");
        Loom x = fresh();
        Pen pen = new Pen(x);
        x.function(0, 1, 0, 0, 0);
        int n = pen.local(0);
        int one = pen.number(1);
        x.body(0, pen.choose(n, pen.add(one, pen.call(0, pen.sub(n, one))), one));
        int call = pen.call(0, pen.number(22));
        int f = laidAs(x, 0, pen.add(pen.add(call, call), call));
        CHECK.due("24 frames, three times", x.run(f, 0, 0, 0), 1);
        CHECK.due("all answers are there", x.value(0, 0), 69);
        CHECK.due("the most at once", x.latest(5), 24);
        int g = laidAs(x, 0, pen.sum(pen.call(0, pen.number(0)), 60));
        CHECK.due("60 CALLs, one after the other", x.run(g, 0, 0, 0), 1);
        CHECK.due("two frames at once", x.latest(5), 2);
        CHECK.due("each has answered", x.value(0, 0), 60);
    }

    private static void threeWords() {
        CHECK.sentence("A PAIR takes 3 of the heap's words");
        Loom x = fresh();
        Pen pen = new Pen(x);
        for (int pairs = 0; pairs <= 5; pairs++) {
            int f = laidAs(x, 1, pen.list(new int[pairs]));
            x.heap(3 * Math.max(1, pairs));
            runs(pairs + " pairs", x, f, 1, 2 * pairs + 2, 0, 3 * pairs, 0, 1, 0);
        }
    }

    private static void stayByLocals() {
        CHECK.sentence("COLLECTED: of all PAIRs those stay that are led to from the maps' locals");
        Loom x = fresh();
        Pen pen = new Pen(x);
        int one = pen.number(1);
        int lost = pen.pair(1, one, pen.nil(1));
        x.force(4);
        for (int local : new int[] {0, 3, 7}) {
            int f = laidAs(x, 0, pen.let(local, pen.list(5, 6, 7), pen.then(lost, pen.left(pen.local(local)))));
            stayed("local " + local + " matters", x, f, 1, 9);
            CHECK.due("and is whole", x.value(0, 0), 5);
            x.body(f, pen.let(local, pen.list(5, 6, 7), pen.then(lost, one)));
            x.lay();
            stayed("local " + local + " does not", x, f, 1, 0);
        }
        int f = laidAs(x, 0, pen.let(1, pen.list(5, 6, 7), pen.let(2, pen.right(pen.local(1)),
                pen.then(lost, pen.left(pen.local(2))))));
        stayed("the second pair alone matters", x, f, 1, 6);
        CHECK.due("and is whole", x.value(0, 0), 6);
    }

    private static void stayByValues() {
        CHECK.sentence("led to from the maps' locals and values");
        Loom x = fresh();
        Pen pen = new Pen(x);
        int lost = pen.pair(1, pen.number(1), pen.nil(1));
        x.force(3);
        int f = laidAs(x, 3, pen.pair(3, pen.list(4, 5), pen.then(lost, pen.nil(1))));
        stayed("a list waits on the pile", x, f, 1, 6);
        CHECK.due("and is whole", x.value(2, 3), 5);
        x.body(f, pen.pair(3, pen.then(pen.list(4, 5), pen.nil(1)), pen.then(lost, pen.nil(1))));
        x.lay();
        stayed("it was dropped", x, f, 1, 0);
        x.force(2);
        x.body(f, pen.then(pen.list(4, 5), pen.nil(3)));
        x.lay();
        stayed("what the NEW takes stays", x, f, 1, 3);
    }

    private static void lastFrameByItsInstruction() {
        CHECK.sentence("the last frame by the map of its instruction");
        Loom x = fresh();
        Pen pen = new Pen(x);
        int one = pen.number(1);
        int lost = pen.pair(1, one, pen.nil(1));
        int l = pen.local(0);
        // Made by 1 and 2, still read behind the NEW 3, no more behind the NEW 4.
        int f = laidAs(x, 0, pen.let(0, pen.list(5, 6), pen.then(pen.then(lost, pen.left(l)), pen.left(lost))));
        x.force(3);
        stayed("at the NEW before the last LOAD", x, f, 1, 6);
        x.force(4);
        stayed("at the NEW behind the last LOAD", x, f, 1, 0);
        x.force(2);
        stayed("at both, and the latest counts", x, f, 2, 0);
    }

    /** 24 frames, each with a pair in a local and one on the pile below the CALL. */
    private static void othersByTheirCalls() {
        CHECK.sentence("frame by frame, ... the others by those of their CALLs");
        Loom x = fresh();
        Pen pen = new Pen(x);
        x.function(0, 1, 0, 0, 0);
        int n = pen.local(0);
        int one = pen.number(1);
        int own = pen.pair(1, n, pen.nil(1));
        int l = pen.local(4);
        int deeper = pen.call(0, pen.sub(n, one));
        int held = pen.let(4, own, pen.add(deeper, pen.left(l)));
        x.body(0, pen.choose(n, held, pen.left(own)));
        x.lay();
        x.heap(600);
        // 23 NEWs and CALLs in turn, then the NEW of the last frame: the 47th.
        x.force(47);
        CHECK.due("locals that matter: run", x.run(0, 23, 0, 0), 1);
        CHECK.due("locals that matter: all stay", x.latest(4), 69);
        CHECK.due("locals that matter: sum", x.value(0, 0), 276);
        CHECK.due("locals that matter: collected", x.latest(2), 1);
        x.body(0, pen.choose(n, pen.let(4, own, pen.add(pen.left(l), deeper)), pen.left(own)));
        x.lay();
        x.run(0, 23, 0, 0);
        CHECK.due("locals that do not: none stays", x.latest(4), 0);
        CHECK.due("locals that do not: sum", x.value(0, 0), 276);
        int below = pen.right(pen.pair(2, own, deeper));
        x.body(0, pen.choose(n, pen.add(n, below), pen.left(own)));
        x.lay();
        // Each frame makes a pair and calls with it below, the last one makes the 47th.
        x.run(0, 23, 0, 0);
        CHECK.due("values below the arguments: all stay", x.latest(4), 69);
        CHECK.due("values below the arguments: sum", x.value(0, 0), 276);
    }

    private static void whatTheCallTook() {
        CHECK.sentence("(what that took is no more on the pile)");
        Loom x = fresh();
        Pen pen = new Pen(x);
        int one = pen.number(1);
        int lost = pen.pair(1, one, pen.nil(1));
        int g = x.function(0, 3, 1, 1, 1);
        x.body(g, pen.then(lost, one));
        int call = pen.call(g, pen.list(1), pen.list(2), pen.list(3));
        int f = laidAs(x, 0, call);
        x.force(4);
        stayed("at the CALL all three are there", x, f, 1, 9);
        x.force(5);
        stayed("in the called one, none is read", x, f, 1, 0);
        x.body(g, pen.then(lost, pen.left(pen.local(1))));
        x.lay();
        stayed("in the called one, the second is read", x, f, 1, 3);
        CHECK.due("and is whole", x.value(0, 0), 2);
        int h = laidAs(x, 0, pen.left(pen.putRight(pen.list(9), pen.then(call, pen.list(8)))));
        x.force(6);
        // The pair below is 1, the three 2 to 4, the CALL 5, the NEW in the called one 6.
        stayed("one below the three stays", x, h, 1, 6);
        x.body(g, pen.then(lost, one));
        x.lay();
        stayed("it alone", x, h, 1, 3);
        CHECK.due("what was put", x.value(0, 0), 8);
    }

    private static void byLeftAndRight() {
        CHECK.sentence("and from PAIRs that stay by their left and right");
        Loom x = fresh();
        Pen pen = new Pen(x);
        int one = pen.number(1);
        int lost = pen.pair(1, one, pen.nil(1));
        int l = pen.local(0);
        int both = pen.pair(3, pen.list(1, 2), pen.list(3, 4));
        x.force(6);
        int f = laidAs(x, 3, pen.let(0, both, pen.then(lost, l)));
        stayed("by both", x, f, 1, 15);
        CHECK.due("left left", x.value(0, 2), 1);
        CHECK.due("left right left", x.value(2, 3), 2);
        CHECK.due("right left", x.value(1, 2), 3);
        CHECK.due("right right left", x.value(3, 3), 4);
        x.body(f, pen.let(0, both, pen.then(pen.putLeft(l, pen.nil(1)), pen.then(lost, l))));
        x.lay();
        stayed("the left was cut off", x, f, 1, 9);
        x.body(f, pen.let(0, both, pen.then(pen.putRight(l, pen.nil(1)), pen.then(lost, l))));
        x.lay();
        stayed("the right was cut off", x, f, 1, 9);
        CHECK.due("the left is whole", x.value(2, 3), 2);
        x.body(f, pen.let(0, both, pen.then(pen.putRight(l, pen.left(l)), pen.then(lost, l))));
        x.lay();
        stayed("both lead to the same", x, f, 1, 9);
        int turned = pen.putRight(pen.right(pen.left(l)), pen.left(l));
        x.body(f, pen.let(0, both, pen.then(turned, pen.then(lost, l))));
        x.lay();
        stayed("a circle", x, f, 1, 15);
        x.body(f, pen.let(0, both, pen.then(turned, pen.then(pen.putLeft(l, pen.nil(1)), pen.then(lost, l)))));
        x.lay();
        stayed("a circle that nothing leads to", x, f, 1, 9);
    }

    /** PAIRs of (INT, INT) with all numbers that a pair might have inside. */
    private static void intsLeadNowhere() {
        CHECK.sentence("all others go");
        Loom x = fresh();
        Pen pen = new Pen(x);
        x.function(4, 3, 0, 0, 0);
        int one = pen.number(1);
        int lost = pen.pair(1, one, pen.pair(1, one, pen.pair(1, one, pen.nil(1))));
        int held = pen.pair(4, pen.local(0), pen.local(1));
        x.body(0, pen.then(lost, pen.let(5, held, pen.then(pen.left(lost), pen.local(5)))));
        x.lay();
        // Three lost ones, the one that is held, three lost ones.
        x.force(7);
        for (int v = -2; v <= 8; v++) {
            CHECK.due("run with " + v, x.run(0, v, 3, v), 1);
            CHECK.due("left " + v + ": its INTs lead nowhere", x.latest(4), 9);
            CHECK.due("run with " + v, x.run(0, 3, v, v), 1);
            CHECK.due("right " + v + ": its INTs lead nowhere", x.latest(4), 9);
            CHECK.due("left", x.value(0, 1), 3);
            CHECK.due("right", x.value(1, 1), v);
        }
        x.run(0, MIN, MAX, 0);
        CHECK.due("the least and the greatest", x.latest(4), 9);
    }

    private static void typesAsAtLay() {
        CHECK.sentence("2: (what is laid down stays as it is)");
        Loom x = fresh();
        Pen pen = new Pen(x);
        int lost = pen.pair(1, pen.number(1), pen.nil(1));
        int f = laidAs(x, 3, pen.let(0, pen.pair(3, pen.list(1, 2), pen.list(3, 4)),
                pen.then(lost, pen.local(0))));
        x.force(6);
        x.type(3, 0, 0);
        x.type(1, 0, 0);
        stayed("types are INTs now", x, f, 1, 15);
        CHECK.due("left", x.value(2, 3), 2);
        CHECK.due("right", x.value(3, 3), 4);
        x.type(1, 1, 0);
        stayed("types are turned round", x, f, 1, 15);
        CHECK.due("left", x.value(2, 3), 2);
    }

    /** 200 pairs that all stay, at each NEW. */
    private static void manyStay() {
        CHECK.sentence("those stay that are led to", "a full heap");
        Loom x = fresh();
        Pen pen = new Pen(x);
        x.function(1, 2, 0, 1, 0);
        int n = pen.local(0);
        int list = pen.local(1);
        int longer = list;
        for (int k = 0; k < 10; k++) {
            longer = pen.pair(1, n, longer);
        }
        x.body(0, pen.choose(n, pen.call(0, pen.sub(n, pen.number(1)), longer), list));
        int f = laidAs(x, 1, pen.call(0, pen.number(20), pen.nil(1)));
        x.heap(600);
        x.force(1);
        CHECK.due("run", x.run(f, 0, 0, 0), 1);
        CHECK.due("200 pairs, 21 CALLs", x.latest(2), 221);
        CHECK.due("all are there", x.latest(3), 600);
        CHECK.due("and stayed at the last CALL", x.latest(4), 600);
        CHECK.due("the 20th is of the second CALL from the end", x.value((1 << 19) - 1, 20), 2);
        x.heap(599);
        CHECK.due("one word less", x.run(f, 0, 0, 0), 3);
        CHECK.due("199 stay", x.latest(4), 597);
    }

    /** Five NEWs and CALLs: CALL, NEW, NEW, CALL, NEW, none of which is kept. */
    private static int five(Loom x) {
        Pen pen = new Pen(x);
        int one = pen.number(1);
        int g = laidAs(x, 0, one);
        int call = pen.call(g);
        int lost = pen.pair(1, one, pen.nil(1));
        return laidAs(x, 1, pen.then(call, pen.then(lost, pen.then(lost, pen.then(call, lost)))));
    }

    private static void multiplesOfForce() {
        CHECK.sentence("is a multiple of FORCE, if that is above 0");
        Loom x = fresh();
        int f = five(x);
        int[] force = {0, 1, 2, 3, 4, 5, 6, 7, MAX};
        int[] collections = {0, 5, 2, 1, 1, 1, 0, 0, 0};
        int[] words = {9, 3, 3, 6, 3, 3, 9, 9, 9};
        for (int k = 0; k < force.length; k++) {
            x.force(force[k]);
            runs("FORCE " + force[k], x, f, 1, 20, collections[k], words[k], 0, 2, 0);
        }
    }

    private static void numberedFromOneOn() {
        CHECK.sentence("whose number (of the NEWs and CALLs of the run that are begun, from 1 on)");
        Loom x = fresh();
        int f = five(x);
        x.force(4);
        for (int k = 0; k < 4; k++) {
            CHECK.due("run " + k, x.run(f, 0, 0, 0), 1);
            CHECK.due("run " + k + " is counted from 1 on", x.latest(2), 1);
        }
        x.force(6);
        for (int k = 0; k < 4; k++) {
            CHECK.due("run " + k, x.run(f, 0, 0, 0), 1);
            CHECK.due("run " + k + " has no sixth", x.latest(2), 0);
        }
    }

    private static void collectedOnce() {
        CHECK.sentence("It is collected, once, before each");
        Loom x = fresh();
        Pen pen = new Pen(x);
        int lost = pen.pair(1, pen.number(1), pen.nil(1));
        int f = laidAs(x, 1, pen.then(lost, pen.then(lost, lost)));
        x.heap(3);
        x.force(2);
        // The second is forced and full, the third is full.
        runs("forced and full", x, f, 1, 12, 2, 3, 0, 1, 0);
        x.force(1);
        runs("all forced, two full", x, f, 1, 12, 3, 3, 0, 1, 0);
        x.body(f, pen.list(1, 2));
        x.lay();
        x.force(2);
        runs("forced and full, and of no use", x, f, 3, 5, 1, 3, 3, 1, 0);
    }

    private static void collectedBefore() {
        CHECK.sentence("before each NEW and CALL");
        Loom x = fresh();
        Pen pen = new Pen(x);
        x.force(1);
        int f = laidAs(x, 1, pen.list(1));
        runs("the first NEW: its own PAIR is not there yet", x, f, 1, 4, 1, 3, 0, 1, 0);
        int g = laidAs(x, 1, pen.list(1, 2));
        runs("the second NEW: the first is", x, g, 1, 6, 2, 6, 3, 1, 0);
        int h = laidAs(x, 1, pen.call(f));
        runs("the CALL, then the NEW", x, h, 1, 6, 2, 3, 0, 2, 0);
    }

    private static void threeMoreAboveTheHeap() {
        CHECK.sentence("and before a NEW if the words of the PAIRs that are there and 3 more are above the heap's");
        Loom x = fresh();
        Pen pen = new Pen(x);
        int lost = pen.pair(1, pen.number(1), pen.nil(1));
        int f = laidAs(x, 1, pen.then(pen.then(lost, pen.then(lost, lost)), pen.then(lost, pen.then(lost, lost))));
        int[] collections = {5, 5, 5, 2, 2, 2, 1, 1, 1, 1, 1, 1, 1, 1, 1, 0, 0};
        int[] words = {3, 3, 3, 6, 6, 6, 9, 9, 9, 6, 6, 6, 3, 3, 3, 18, 18};
        for (int heap = 3; heap < 3 + words.length; heap++) {
            x.heap(heap);
            runs("six lost ones in " + heap, x, f, 1, 24, collections[heap - 3], words[heap - 3], 0, 1, 0);
        }
        CHECK.sentence("before a NEW if", "not before a CALL");
        int g = laidAs(x, 1, lost);
        int h = laidAs(x, 1, pen.then(lost, pen.call(g)));
        x.heap(3);
        runs("full at the CALL and at the NEW behind it", x, h, 1, 10, 1, 3, 0, 2, 0);
        int i = laidAs(x, 0, pen.number(1));
        int j = laidAs(x, 0, pen.then(lost, pen.call(i)));
        runs("full at the CALL alone", x, j, 1, 8, 0, 3, 0, 2, 0);
    }

    private static void zero() {
        CHECK.sentence("ZERO goes on at its place if what it took is 0");
        Loom x = fresh();
        Pen pen = new Pen(x);
        x.function(0, 1, 0, 0, 0);
        x.body(0, pen.choose(pen.local(0), pen.number(10), pen.number(20)));
        x.lay();
        for (int v : new int[] {0, 1, -1, 2, 256, 65536, MIN, MAX}) {
            CHECK.due("run with " + v, x.run(0, v, 0, 0), 1);
            CHECK.due("value with " + v, x.value(0, 0), v == 0 ? 20 : 10);
            CHECK.due("steps with " + v, x.latest(1), v == 0 ? 4 : 5);
        }
    }

    private static void overByResult() {
        CHECK.sentence("A run is over: 1 when the first frame ends, its RET's value is the RESULT");
        Loom x = fresh();
        Pen pen = new Pen(x);
        int g = laidAs(x, 0, pen.number(5));
        int f = laidAs(x, 0, pen.add(pen.call(g), pen.number(1)));
        runs("not when another frame ends", x, f, 1, 6, 0, 0, 0, 2, 0);
        CHECK.due("the RESULT", x.value(0, 0), 6);
        runs("when the first frame ends", x, g, 1, 2, 0, 0, 0, 1, 0);
        CHECK.due("the RESULT", x.value(0, 0), 5);
    }

    private static void overByNil() {
        CHECK.sentence("2 at a LEFT, RIGHT, PUTLEFT, PUTRIGHT of NIL");
        Loom x = fresh();
        Pen pen = new Pen(x);
        int nil = pen.nil(1);
        int two = pen.nil(2);
        int one = pen.number(1);
        x.function(0, 0, 0, 0, 0);
        int[] bad = {pen.left(nil), pen.right(two), pen.putLeft(nil, one), pen.putRight(two, one)};
        int[] good = {pen.left(pen.list(0)), pen.right(pen.pair(2, nil, pen.number(0))), pen.putLeft(pen.list(0), one),
            pen.putRight(pen.pair(2, nil, one), one)};
        int[] steps = {2, 2, 3, 3};
        for (int k = 0; k < 4; k++) {
            x.body(0, bad[k]);
            x.lay();
            runs("of NIL, " + k, x, 0, 2, steps[k], 0, 0, 0, 1, 0);
            CHECK.due("no RESULT", x.tell(0, 0), -1);
            x.body(0, good[k]);
            x.lay();
            CHECK.due("of a PAIR with 0 and NIL, " + k, x.run(0, 0, 0, 0), 1);
        }
        x.body(0, pen.empty(nil));
        x.lay();
        CHECK.due("EMPTY of NIL is good", x.run(0, 0, 0, 0), 1);
        x.body(0, pen.empty(pen.putRight(pen.list(1), nil)));
        x.lay();
        CHECK.due("NIL may be put", x.run(0, 0, 0, 0), 1);
        x.body(0, pen.left(pen.right(pen.list(1))));
        x.lay();
        CHECK.due("LEFT of a list's end", x.run(0, 0, 0, 0), 2);
    }

    private static void overByHeap() {
        CHECK.sentence("3 at a NEW if they are above it then, still");
        Loom x = fresh();
        Pen pen = new Pen(x);
        int f = laidAs(x, 1, pen.list(1, 2, 3));
        int[] overs = {3, 3, 3, 3, 3, 3, 1, 1};
        int[] words = {3, 3, 3, 6, 6, 6, 9, 9};
        for (int heap = 3; heap <= 10; heap++) {
            x.heap(heap);
            boolean over = overs[heap - 3] == 3;
            int made = words[heap - 3] / 3;
            runs("three that stay in " + heap, x, f, overs[heap - 3], over ? 5 + made : 8, over ? 1 : 0,
                    words[heap - 3], over ? words[heap - 3] : 0, 1, 0);
            CHECK.due("a RESULT", x.tell(0, 0), over ? -1 : 2);
        }
        int lost = pen.pair(1, pen.number(1), pen.nil(1));
        int g = laidAs(x, 1, pen.then(lost, pen.list(1, 2)));
        x.heap(6);
        runs("not if one has gone then", x, g, 1, 10, 1, 6, 3, 1, 0);
        x.heap(5);
        runs("but if none has", x, g, 3, 9, 2, 3, 3, 1, 0);
    }

    private static void overByFrames() {
        CHECK.sentence("4 at a CALL that would make a 25th frame");
        Loom x = fresh();
        Pen pen = new Pen(x);
        x.function(0, 1, 0, 0, 0);
        int n = pen.local(0);
        int one = pen.number(1);
        x.body(0, pen.choose(n, pen.call(0, pen.sub(n, one)), pen.number(9)));
        x.lay();
        for (int deep = 22; deep <= 25; deep++) {
            boolean good = deep <= 23;
            CHECK.due("run with " + deep, x.run(0, deep, 0, 0), good ? 1 : 4);
            CHECK.due("frames with " + deep, x.latest(5), Math.min(24, deep + 1));
            CHECK.due("steps with " + deep, x.latest(1), good ? deep * 8 + 4 : 24 * 6);
            CHECK.due("RESULT with " + deep, x.value(0, 0), good ? 9 : 0);
        }
        CHECK.due("a run behind it", x.run(0, 0, 0, 0), 1);
        CHECK.due("has one frame", x.latest(5), 1);
    }

    /** An INT, not 0, of just so many steps; function 0 must be the one of 96. */
    private static int spend(Pen pen, int steps) {
        int calls = (steps + 1) / 98;
        int left = steps - (98 * calls - 1);
        if (left == 1) {
            calls--;
            left += 98;
        }
        int one = pen.number(1);
        int made = pen.sum(pen.call(0), calls);
        boolean odd = left % 2 == 1;
        int more = odd ? left - 3 : left;
        made = more == 0 ? made : pen.add(made, pen.sum(one, more / 2));
        // A ZERO, a PUSH and a JUMP more.
        return odd ? pen.choose(made, one, one) : made;
    }

    /** A Loom whose function 0 takes 96 steps, so that a CALL of it and an ADD make 98. */
    private static Loom spender() {
        Loom x = fresh();
        Pen pen = new Pen(x);
        x.function(0, 0, 0, 0, 0);
        x.body(0, pen.sum(pen.number(1), 48));
        return x;
    }

    private static void overBySteps() {
        CHECK.sentence("5 where the 6001st instruction would be done");
        for (int steps = 5997; steps <= 6002; steps++) {
            Loom x = spender();
            int f = laidAs(x, 0, spend(new Pen(x), steps - 1));
            boolean good = steps <= 6000;
            runs(steps + " steps", x, f, good ? 1 : 5, Math.min(6000, steps), 0, 0, 0, 2, 0);
            CHECK.due("RESULT of " + steps + " steps", x.tell(0, 0), good ? 0 : -1);
        }
        Loom x = spender();
        int f = laidAs(x, 0, spend(new Pen(x), 6000));
        for (int k = 0; k < 3; k++) {
            CHECK.due("each run has 6000", x.run(f, 0, 0, 0), 5);
            CHECK.due("a short run behind it", x.run(0, 0, 0, 0), 1);
            CHECK.due("has steps of its own", x.latest(1), 96);
        }
    }

    /** What would be done as the 6000th is done, whatever it is; as the 6001st it is not. */
    private static void overByStepsBeforeAllElse() {
        CHECK.sentence("5 where the 6001st instruction would be done", "whatever that is");
        for (int late = 0; late <= 1; late++) {
            String name = late == 0 ? "as the 6000th: " : "as the 6001st: ";
            Loom x = spender();
            Pen pen = new Pen(x);
            int f = laidAs(x, 0, pen.left(pen.then(spend(pen, 5997 + late), pen.nil(1))));
            runs(name + "LEFT of NIL", x, f, late == 0 ? 2 : 5, 6000, 0, 0, 0, 2, 0);
            x = spender();
            pen = new Pen(x);
            f = laidAs(x, 1, pen.then(spend(pen, 5994 + late), pen.list(1, 2)));
            x.heap(3);
            runs(name + "NEW without room", x, f, late == 0 ? 3 : 5, 6000, 1 - late, 3, 3 - 3 * late, 2, 0);
            x = spender();
            pen = new Pen(x);
            f = laidAs(x, 0, pen.out(spend(pen, 5999 + late)));
            runs(name + "PUT", x, f, 5, 6000, 0, 0, 0, 2, 1 - late);
            x = spender();
            pen = new Pen(x);
            int g = x.function(0, 0, 0, 0, 0);
            x.body(g, pen.call(g));
            f = laidAs(x, 0, pen.then(spend(pen, 5975 + late), pen.call(g)));
            runs(name + "CALL of a 25th frame", x, f, late == 0 ? 4 : 5, 6000, 0, 0, 0, 24, 0);
            x = spender();
            pen = new Pen(x);
            f = laidAs(x, 1, pen.then(spend(pen, 5996 + late), pen.list(1)));
            // The CALLs are 61 or 62, and the NEW one more.
            int calls = x.laid(1) - 1;
            x.force(calls + 1);
            runs(name + "NEW that is forced", x, f, 5, 6000, 1 - late, 3 - 3 * late, 0, 2, 0);
        }
    }

    private static void beganIsAStep() {
        CHECK.sentence("Each instruction that is begun is a step");
        Loom x = fresh();
        Pen pen = new Pen(x);
        int f = laidAs(x, 0, pen.number(1));
        runs("a PUSH and the RET", x, f, 1, 2, 0, 0, 0, 1, 0);
        int g = laidAs(x, 0, pen.left(pen.nil(1)));
        runs("the LEFT of NIL", x, g, 2, 2, 0, 0, 0, 1, 0);
        x.heap(3);
        int h = laidAs(x, 1, pen.list(1, 2));
        runs("the NEW without room", x, h, 3, 5, 1, 3, 3, 1, 0);
        int i = x.function(0, 0, 0, 0, 0);
        x.body(i, pen.call(i));
        x.lay();
        runs("the CALL of a 25th frame", x, i, 4, 24, 0, 0, 0, 24, 0);
    }

    private static void putOut() {
        CHECK.sentence("At most 64 ints are put out, more are lost");
        for (int many = 62; many <= 67; many++) {
            Loom x = fresh();
            Pen pen = new Pen(x);
            x.function(0, 1, 0, 0, 0);
            int n = pen.local(0);
            int deep = n;
            for (int k = 0; k < many; k++) {
                deep = pen.out(pen.add(deep, n));
            }
            x.body(0, deep);
            x.lay();
            CHECK.due("run", x.run(0, 3, 0, 0), 1);
            CHECK.due(many + " PUTs: latest(6)", x.latest(6), Math.min(64, many));
            CHECK.due(many + " PUTs: the RESULT is the last", x.value(0, 0), 3 * (many + 1));
            for (int i = 0; i < 70; i++) {
                CHECK.due(many + " PUTs: out(" + i + ")", x.out(i), i < Math.min(64, many) ? 3 * (i + 2) : 0);
            }
            CHECK.due("run again", x.run(0, 1, 0, 0), 1);
            CHECK.due("the first ones are the new run's", x.out(0), 2);
            CHECK.due("the 64th, too", x.out(63), many >= 64 ? 65 : 0);
        }
    }
}
