/** Promises 11 to 17: heap, force, run, latest, out, tell, value. */
public final class RunningTest {
    private static final Check CHECK = new Check("RunningTest");

    public static void main(String[] args) {
        heapAnswers();
        heapHoldsForRunsThatCome();
        forceAnswers();
        forceCountsNewsAndCalls();
        runRefuses();
        arithmetic();
        choices();
        overByNil();
        overByHeap();
        overByFrames();
        overBySteps();
        argumentsInOrder();
        eachRunBeginsAnew();
        largestHeap();
        roomIsUsedAgain();
        collectedOnce();
        collectedByLocals();
        collectedByPile();
        collectedInCallers();
        collectedThroughPairs();
        collectedAtTheLastCall();
        collectedLeavesIntsAlone();
        latestAnswers();
        outAnswers();
        tellAnswers();
        tellInCircles();
        CHECK.end();
    }

    private static Loom fresh() {
        Loom x = new Loom();
        x.type(1, 0, 1);
        x.type(2, 1, 0);
        return x;
    }

    private static void latest(String name, Loom x, int... want) {
        for (int what = 0; what < want.length; what++) {
            CHECK.due(name + ": latest(" + what + ")", x.latest(what), want[what]);
        }
    }

    /** A function of no parameters with that body, laid down; the others stay. */
    private static int laidAs(Loom x, int result, int body) {
        int f = x.function(result, 0, 0, 0, 0);
        x.body(f, body);
        if (x.lay() < 0) {
            throw new IllegalStateException("the test wrote a body that can't be");
        }
        return f;
    }

    private static void heapAnswers() {
        Loom x = fresh();
        CHECK.due("11: 2", x.heap(2), false);
        CHECK.due("11: 3", x.heap(3), true);
        CHECK.due("11: 600", x.heap(600), true);
        CHECK.due("11: 601", x.heap(601), false);
        CHECK.due("11: 0", x.heap(0), false);
        CHECK.due("11: -3", x.heap(-3), false);
        CHECK.due("11: MAX", x.heap(Integer.MAX_VALUE), false);
        CHECK.due("11: MIN", x.heap(Integer.MIN_VALUE), false);
    }

    private static void heapHoldsForRunsThatCome() {
        Loom x = fresh();
        Pen pen = new Pen(x);
        int f = laidAs(x, 1, pen.list(1, 2, 3));
        x.heap(9);
        CHECK.due("11: three pairs in 9 words", x.run(f, 0, 0, 0), 1);
        latest("11: 9 words", x, 1, 8, 0, 9, 0, 1, 0);
        x.heap(3);
        CHECK.due("11: the latest run stays", x.tell(7, 3), 1);
        CHECK.due("11: and its words", x.latest(3), 9);
        CHECK.due("11: one that can't be changes nothing", x.heap(2), false);
        CHECK.due("11: no room for the second", x.run(f, 0, 0, 0), 3);
        x.heap(8);
        CHECK.due("11: 8 words are two pairs", x.run(f, 0, 0, 0), 3);
        latest("11: 8 words", x, 3, 7, 1, 6, 6, 1, 0);
        x.heap(11);
        CHECK.due("11: 11 words are three", x.run(f, 0, 0, 0), 1);
        x.lay();
        CHECK.due("11: the heap outlives lay", x.run(f, 0, 0, 0), 1);
    }

    private static void forceAnswers() {
        Loom x = fresh();
        CHECK.due("12: 0", x.force(0), true);
        CHECK.due("12: 1", x.force(1), true);
        CHECK.due("12: MAX", x.force(Integer.MAX_VALUE), true);
        CHECK.due("12: -1", x.force(-1), false);
        CHECK.due("12: MIN", x.force(Integer.MIN_VALUE), false);
    }

    private static void forceCountsNewsAndCalls() {
        Loom x = fresh();
        Pen pen = new Pen(x);
        int one = pen.number(1);
        int g = laidAs(x, 0, one);
        int call = pen.call(g);
        int lost = pen.pair(1, one, pen.nil(1));
        // CALL, NEW, NEW, CALL, NEW: 1 to 5
        int body = pen.then(call, pen.then(lost, pen.then(lost, pen.then(call, lost))));
        int f = laidAs(x, 1, body);
        int[] collections = {0, 5, 2, 1, 1, 1, 0};
        int[] words = {9, 3, 3, 6, 3, 3, 9};
        for (int n = 0; n <= 6; n++) {
            CHECK.due("12: force(" + n + ")", x.force(n), true);
            CHECK.due("12: run", x.run(f, 0, 0, 0), 1);
            CHECK.due("12: collected with " + n, x.latest(2), collections[n]);
            CHECK.due("12: words with " + n, x.latest(3), words[n]);
        }
        x.force(1);
        CHECK.due("12: one that can't be changes nothing", x.force(-5), false);
        CHECK.due("12: the latest run stays", x.latest(2), 0);
        x.run(f, 0, 0, 0);
        CHECK.due("12: still 1", x.latest(2), 5);
        x.run(f, 0, 0, 0);
        CHECK.due("12: counted from 1 on in each run", x.latest(2), 5);
        x.force(2);
        x.run(f, 0, 0, 0);
        x.run(f, 0, 0, 0);
        CHECK.due("12: with 2, too", x.latest(2), 2);
    }

    private static void runRefuses() {
        Loom x = fresh();
        Pen pen = new Pen(x);
        x.function(0, 1, 0, 0, 0);
        x.function(0, 1, 1, 0, 0);
        x.function(0, 3, 0, 0, 2);
        x.function(0, 2, 0, 0, 7);
        x.function(0, 0, 7, 7, 7);
        x.body(0, pen.out(pen.local(0)));
        x.body(1, pen.number(1));
        x.body(2, pen.number(2));
        x.body(3, pen.local(1));
        CHECK.due("13: not laid down", x.run(0, 5, 0, 0), -1);
        CHECK.due("13: no run was there", x.latest(0), -1);
        x.lay();
        CHECK.due("13: run(0)", x.run(0, 5, 0, 0), 1);
        CHECK.due("13: a pair is asked for", x.run(1, 6, 0, 0), -1);
        CHECK.due("13: as the third", x.run(2, 6, 0, 0), -1);
        CHECK.due("13: without a BODY", x.run(4, 6, 0, 0), -1);
        CHECK.due("13: no function 5", x.run(5, 6, 0, 0), -1);
        CHECK.due("13: no function -1", x.run(-1, 6, 0, 0), -1);
        CHECK.due("13: no function MAX", x.run(Integer.MAX_VALUE, 6, 0, 0), -1);
        CHECK.due("13: no function MIN", x.run(Integer.MIN_VALUE, 6, 0, 0), -1);
        CHECK.due("13: the latest run stays", x.value(0, 0), 5);
        CHECK.due("13: with what it put out", x.out(0), 5);
        CHECK.due("13: a type it has not does not matter", x.run(3, 1, 9, 2), 1);
        CHECK.due("13: its second", x.value(0, 0), 9);
    }

    private static int valueOf(Loom x, int f, int first, int second) {
        x.run(f, first, second, 0);
        return x.value(0, 0);
    }

    private static void arithmetic() {
        Loom x = fresh();
        Pen pen = new Pen(x);
        for (int f = 0; f < 3; f++) {
            x.function(0, 2, 0, 0, 0);
        }
        int a = pen.local(0);
        int b = pen.local(1);
        x.body(0, pen.add(a, b));
        x.body(1, pen.sub(a, b));
        x.body(2, pen.less(a, b));
        x.lay();
        int max = Integer.MAX_VALUE;
        int min = Integer.MIN_VALUE;
        CHECK.due("13: 3 + 4", valueOf(x, 0, 3, 4), 7);
        CHECK.due("13: MAX + 1", valueOf(x, 0, max, 1), min);
        CHECK.due("13: 3 - 4", valueOf(x, 1, 3, 4), -1);
        CHECK.due("13: MIN - 1", valueOf(x, 1, min, 1), max);
        CHECK.due("13: 3 < 4", valueOf(x, 2, 3, 4), 1);
        CHECK.due("13: 4 < 4", valueOf(x, 2, 4, 4), 0);
        CHECK.due("13: 5 < 4", valueOf(x, 2, 5, 4), 0);
        CHECK.due("13: MIN < MAX", valueOf(x, 2, min, max), 1);
        CHECK.due("13: MAX < MIN", valueOf(x, 2, max, min), 0);
    }

    private static void choices() {
        Loom x = fresh();
        Pen pen = new Pen(x);
        x.function(0, 1, 0, 0, 0);
        x.body(0, pen.choose(pen.local(0), pen.number(10), pen.number(20)));
        x.lay();
        CHECK.due("13: 0 goes on at its place", valueOf(x, 0, 0, 0), 20);
        CHECK.due("14: steps", x.latest(1), 4);
        CHECK.due("13: 1 does not", valueOf(x, 0, 1, 0), 10);
        CHECK.due("14: steps with the JUMP", x.latest(1), 5);
        CHECK.due("13: nor does -1", valueOf(x, 0, -1, 0), 10);
        x.body(0, pen.add(pen.empty(pen.nil(1)), pen.sum(pen.empty(pen.list(1)), 4)));
        x.lay();
        CHECK.due("13: EMPTY of NIL and of a PAIR", valueOf(x, 0, 0, 0), 1);
    }

    private static void overByNil() {
        Loom x = fresh();
        Pen pen = new Pen(x);
        int nil1 = pen.nil(1);
        int nil2 = pen.nil(2);
        int five = pen.number(5);
        int[] bodies = {pen.left(nil1), pen.right(nil2), pen.putLeft(nil1, five), pen.putRight(nil2, five)};
        int[] steps = {2, 2, 3, 3};
        x.function(0, 0, 0, 0, 0);
        for (int k = 0; k < 4; k++) {
            x.body(0, pen.add(pen.out(five), pen.then(pen.list(1), bodies[k])));
            x.lay();
            CHECK.due("13: NIL, " + k, x.run(0, 0, 0, 0), 2);
            latest("14: NIL, " + k, x, 2, 6 + steps[k], 0, 3, 0, 1, 1);
            CHECK.due("15: what was put out before", x.out(0), 5);
            CHECK.due("16: no RESULT", x.tell(0, 0), -1);
            CHECK.due("17: no RESULT", x.value(0, 0), 0);
        }
        int f = laidAs(x, 0, pen.left(pen.pair(1, pen.number(0), nil1)));
        CHECK.due("13: a PAIR with a 0 is not NIL", x.run(f, 0, 0, 0), 1);
    }

    private static void overByHeap() {
        Loom x = fresh();
        Pen pen = new Pen(x);
        int f = laidAs(x, 1, pen.list(1, 2, 3, 4));
        x.heap(9);
        CHECK.due("13: the fourth has no room", x.run(f, 0, 0, 0), 3);
        latest("14: after a collection of no use", x, 3, 9, 1, 9, 9, 1, 0);
        x.force(4);
        CHECK.due("13: forced at the same NEW", x.run(f, 0, 0, 0), 3);
        CHECK.due("13: it is collected once", x.latest(2), 1);
        x.force(2);
        x.heap(12);
        CHECK.due("13: all are used", x.run(f, 0, 0, 0), 1);
        latest("14: forced twice", x, 1, 10, 2, 12, 9, 1, 0);
    }

    private static void overByFrames() {
        Loom x = fresh();
        Pen pen = new Pen(x);
        x.function(0, 1, 0, 0, 0);
        int n = pen.local(0);
        int one = pen.number(1);
        x.body(0, pen.choose(n, pen.add(one, pen.call(0, pen.sub(n, one))), pen.number(0)));
        x.lay();
        CHECK.due("13: 24 frames", x.run(0, 23, 0, 0), 1);
        CHECK.due("17: counted", x.value(0, 0), 23);
        latest("14: 24 frames", x, 1, 23 * 10 + 4, 0, 0, 0, 24, 0);
        CHECK.due("13: a 25th", x.run(0, 24, 0, 0), 4);
        latest("14: a 25th", x, 4, 24 * 7, 0, 0, 0, 24, 0);
        CHECK.due("13: two frames", x.run(0, 1, 0, 0), 1);
        CHECK.due("14: two frames", x.latest(5), 2);
    }

    private static void overBySteps() {
        Loom x = fresh();
        Pen pen = new Pen(x);
        int deep = pen.number(7);
        for (int k = 0; k < 96; k++) {
            deep = pen.out(deep);
        }
        x.function(0, 0, 0, 0, 0);
        x.body(0, deep);
        // 98 steps for each of 60 CALLs, 60 CALLs, 59 ADDs, RET: 6000.
        int sum = pen.sum(pen.call(0), 60);
        int f = laidAs(x, 0, sum);
        CHECK.due("13: 6000 steps", x.run(f, 0, 0, 0), 1);
        latest("14: 6000 steps", x, 1, 6000, 0, 0, 0, 2, 64);
        CHECK.due("17: 6000 steps", x.value(0, 0), 420);
        int g = laidAs(x, 0, pen.out(sum));
        CHECK.due("13: 6001 steps", x.run(g, 0, 0, 0), 5);
        latest("14: 6001 steps", x, 5, 6000, 0, 0, 0, 2, 64);
        CHECK.due("16: no RESULT", x.tell(0, 0), -1);
        CHECK.due("17: no RESULT", x.value(0, 0), 0);
        x.body(f, -1);
        x.body(g, -1);
        notBegunNotCollected(x, pen);
    }

    /** The 6001st instruction would be a NEW: it is not begun, so nothing is collected for it. */
    private static void notBegunNotCollected(Loom x, Pen pen) {
        int one = pen.number(1);
        int f = laidAs(x, 1, pen.pair(1, pen.add(pen.sum(pen.call(0), 59), pen.sum(one, 49)), pen.nil(1)));
        // 59 * 99 + 58, 97, an ADD, NULL: 5998.
        x.force(60);
        CHECK.due("13: a NEW and the RET are left", x.run(f, 0, 0, 0), 1);
        CHECK.due("14: 6000", x.latest(1), 6000);
        CHECK.due("14: collected at the NEW", x.latest(2), 1);
        x.body(f, -1);
        int g = laidAs(x, 1, pen.pair(1, pen.out(pen.out(pen.add(pen.sum(pen.call(0), 59), pen.sum(one, 49)))),
                pen.nil(1)));
        CHECK.due("13: the NEW is the 6001st", x.run(g, 0, 0, 0), 5);
        latest("14: the NEW is the 6001st", x, 5, 6000, 0, 0, 0, 2, 64);
    }

    private static void eachRunBeginsAnew() {
        Loom x = fresh();
        Pen pen = new Pen(x);
        int f = laidAs(x, 1, pen.list(1, 2, 3));
        int g = laidAs(x, 0, pen.out(pen.number(4)));
        x.heap(9);
        for (int k = 0; k < 3; k++) {
            CHECK.due("13: the heap is empty again", x.run(f, 0, 0, 0), 1);
            latest("14: nothing of the run before", x, 1, 8, 0, 9, 0, 1, 0);
        }
        x.run(g, 0, 0, 0);
        latest("14: no words of the run before", x, 1, 3, 0, 0, 0, 1, 1);
        x.run(f, 0, 0, 0);
        CHECK.due("15: nothing put out by the run before", x.out(0), 0);
        x.force(3);
        x.run(f, 0, 0, 0);
        latest("14: collected", x, 1, 8, 1, 9, 6, 1, 0);
        x.force(0);
        x.run(f, 0, 0, 0);
        latest("14: what stayed in the run before does not count", x, 1, 8, 0, 9, 0, 1, 0);
        afterFramesLeftOpen();
    }

    /** A run that is over in deep frames leaves nothing on the piles of the next one's. */
    private static void afterFramesLeftOpen() {
        Loom x = fresh();
        Pen pen = new Pen(x);
        x.function(1, 1, 0, 0, 0);
        int n = pen.local(0);
        int one = pen.number(1);
        int more = pen.pair(1, n, pen.call(0, pen.sub(n, one)));
        x.body(0, pen.choose(n, more, pen.nil(1)));
        x.lay();
        x.heap(600);
        CHECK.due("13: too deep", x.run(0, -1, 0, 0), 4);
        x.force(1);
        for (int k = 0; k < 20; k++) {
            CHECK.due("13: deep enough", x.run(0, 23, 0, 0), 1);
            latest("13: deep enough", x, 1, 23 * 10 + 4, 46, 69, 66, 24, 0);
        }
        CHECK.due("17: the first", x.value(0, 1), 23);
        CHECK.due("17: the 20th", x.value((1 << 19) - 1, 20), 4);
    }

    private static void argumentsInOrder() {
        Loom x = fresh();
        Pen pen = new Pen(x);
        x.function(0, 3, 0, 1, 0);
        int digits = pen.add(pen.add(pen.sum(pen.local(0), 100), pen.sum(pen.left(pen.local(1)), 10)), pen.local(2));
        x.body(0, digits);
        int f = laidAs(x, 0, pen.add(pen.number(4000), pen.call(0, pen.number(3), pen.list(2), pen.number(1))));
        CHECK.due("13: a CALL with three ARGs", x.run(f, 0, 0, 0), 1);
        CHECK.due("17: each in its place, and the value below", x.value(0, 0), 4321);
    }

    /** So many pairs with the number in front of a list. */
    private static int before(Pen pen, int list, int number, int many) {
        int made = list;
        for (int k = 0; k < many; k++) {
            made = pen.pair(1, number, made);
        }
        return made;
    }

    /** 8 pairs in each of 23 frames, and 16 or 17 in the first: 200 or 201. */
    private static void largestHeap() {
        Loom x = fresh();
        Pen pen = new Pen(x);
        x.function(1, 1, 0, 0, 0);
        int n = pen.local(0);
        int deeper = pen.choose(n, pen.call(0, pen.sub(n, pen.number(1))), pen.nil(1));
        x.body(0, before(pen, deeper, n, 8));
        int five = pen.number(5);
        int call = pen.call(0, pen.number(22));
        int eight = before(pen, n, five, 8);
        int full = laidAs(x, 1, pen.let(0, call, pen.let(1, eight, before(pen, pen.local(1), five, 8))));
        int above = laidAs(x, 1, pen.let(0, call, pen.let(1, eight, before(pen, pen.local(1), five, 9))));
        x.heap(600);
        CHECK.due("11: 200 pairs", x.run(full, 0, 0, 0), 1);
        latest("11: 200 pairs", x, 1, x.latest(1), 0, 600, 0, 24, 0);
        CHECK.due("17: of the 17th", x.value((1 << 16) - 1, 17), 22);
        CHECK.due("11: 201 pairs", x.run(above, 0, 0, 0), 3);
        latest("11: 201 pairs", x, 3, x.latest(1), 1, 600, 600, 24, 0);
        x.heap(597);
        CHECK.due("11: 200 pairs in 597 words", x.run(full, 0, 0, 0), 3);
    }

    /** Function 0 makes a list longer while other pairs come and go; function 1, the answer, begins it. */
    private static int growing(Loom x) {
        Pen pen = new Pen(x);
        x.function(1, 2, 0, 1, 0);
        int n = pen.local(0);
        int list = pen.local(1);
        int lost = pen.list(77, 78);
        int longer = pen.pair(1, n, list);
        int held = pen.let(2, longer, pen.then(lost, pen.local(2)));
        int more = pen.then(lost, pen.call(0, pen.sub(n, pen.number(1)), held));
        x.body(0, pen.choose(n, more, list));
        return laidAs(x, 1, pen.call(0, pen.number(20), pen.nil(1)));
    }

    /** Whenever it is collected, the list is whole. */
    private static void roomIsUsedAgain() {
        for (int words = 66; words <= 600; words += 41) {
            Loom x = fresh();
            int f = growing(x);
            x.heap(words);
            for (int forced = 0; forced <= 7; forced++) {
                x.force(forced);
                CHECK.due("13: heap " + words + ", force " + forced, x.run(f, 0, 0, 0), 1);
                for (int k = 0; k < 20; k++) {
                    CHECK.due("17: item " + k, x.value((1 << k) - 1, k + 1), k + 1);
                }
            }
        }
        Loom x = fresh();
        int f = growing(x);
        x.heap(63);
        CHECK.due("13: 20 pairs and two lost ones do not fit into 63 words", x.run(f, 0, 0, 0), 3);
    }

    private static void collectedOnce() {
        Loom x = fresh();
        Pen pen = new Pen(x);
        int lost = pen.pair(1, pen.number(1), pen.nil(1));
        int f = laidAs(x, 1, pen.then(lost, pen.then(lost, lost)));
        x.heap(3);
        x.force(1);
        CHECK.due("13: forced and full at once", x.run(f, 0, 0, 0), 1);
        latest("13: it is collected once", x, 1, 12, 3, 3, 0, 1, 0);
        x.force(0);
        x.run(f, 0, 0, 0);
        latest("13: full alone", x, 1, 12, 2, 3, 0, 1, 0);
        x.heap(6);
        x.run(f, 0, 0, 0);
        latest("13: full at the third", x, 1, 12, 1, 3, 0, 1, 0);
        x.heap(9);
        x.run(f, 0, 0, 0);
        latest("13: never full", x, 1, 12, 0, 9, 0, 1, 0);
    }

    private static void collectedByLocals() {
        Loom x = fresh();
        Pen pen = new Pen(x);
        int lost = pen.pair(1, pen.number(1), pen.nil(1));
        int list = pen.list(5, 6);
        int read = pen.left(pen.local(0));
        x.force(3);
        // NEW, NEW, STORE 0, then the NEW that is collected at.
        int f = laidAs(x, 0, pen.let(0, list, pen.then(lost, read)));
        CHECK.due("13: read behind it", x.run(f, 0, 0, 0), 1);
        CHECK.due("17: and still whole", x.value(0, 0), 5);
        CHECK.due("14: both stay", x.latest(4), 6);
        x.body(f, pen.let(0, list, pen.then(read, pen.then(lost, pen.number(8)))));
        x.lay();
        x.run(f, 0, 0, 0);
        CHECK.due("14: not read behind it, none stays", x.latest(4), 0);
        x.body(f, pen.let(0, list, pen.let(1, pen.right(pen.local(0)), pen.then(lost, pen.left(pen.local(1))))));
        x.lay();
        x.run(f, 0, 0, 0);
        CHECK.due("14: the second alone is read", x.latest(4), 3);
        CHECK.due("17: that one", x.value(0, 0), 6);
        x.body(f, pen.let(0, list, pen.then(lost, pen.choose(pen.number(1), pen.number(9), read))));
        x.lay();
        x.run(f, 0, 0, 0);
        CHECK.due("14: a way that is not gone counts, too", x.latest(4), 6);
        CHECK.due("17: the way that is gone", x.value(0, 0), 9);
    }

    private static void collectedByPile() {
        Loom x = fresh();
        Pen pen = new Pen(x);
        int one = pen.number(1);
        x.type(3, 1, 1);
        // The first list waits on the pile while the second is made.
        int f = laidAs(x, 3, pen.pair(3, pen.list(1, 2), pen.list(3, 4)));
        x.force(1);
        CHECK.due("13: all is kept on the pile", x.run(f, 0, 0, 0), 1);
        latest("14: all is kept on the pile", x, 1, 12, 5, 15, 12, 1, 0);
        CHECK.due("17: left left", x.value(0, 2), 1);
        CHECK.due("17: left right left", x.value(2, 3), 2);
        CHECK.due("17: right left", x.value(1, 2), 3);
        CHECK.due("17: right right left", x.value(3, 3), 4);
        int g = laidAs(x, 0, pen.add(one, pen.left(pen.list(1, 2))));
        x.run(g, 0, 0, 0);
        latest("14: an INT below", x, 1, 9, 2, 6, 3, 1, 0);
    }

    private static void collectedInCallers() {
        Loom x = fresh();
        Pen pen = new Pen(x);
        int one = pen.number(1);
        int lost = pen.pair(1, one, pen.nil(1));
        // Function 0 takes a list, does not read it and makes a pair.
        int f = x.function(0, 1, 1, 0, 0);
        x.body(f, pen.then(lost, one));
        int direct = laidAs(x, 0, pen.call(f, pen.list(1, 2, 3)));
        x.force(5);
        // NEWs 1 to 3, the CALL 4, the NEW 5.
        x.run(direct, 0, 0, 0);
        latest("13: what the CALL took is no more on the pile", x, 1, 15, 1, 3, 0, 2, 0);
        x.force(4);
        x.run(direct, 0, 0, 0);
        latest("13: at the CALL itself it is", x, 1, 15, 1, 12, 9, 2, 0);
        x.force(6);
        int below = laidAs(x, 0, pen.left(pen.pair(1, pen.number(2), pen.then(
                pen.putRight(lost, pen.then(pen.call(f, pen.list(1, 2, 3)), lost)), pen.nil(1)))));
        // The lost pair 1, NEWs 2 to 4, the CALL 5, the NEW 6 in function 0.
        x.run(below, 0, 0, 0);
        CHECK.due("13: what lies below the arguments is kept", x.latest(4), 3);
        int local = laidAs(x, 0, pen.let(4, pen.list(7, 8), pen.then(pen.call(f, lost), pen.left(pen.local(4)))));
        x.force(5);
        // NEWs 1 and 2, the lost pair 3, the CALL 4, the NEW 5 in function 0.
        x.run(local, 0, 0, 0);
        CHECK.due("13: the caller's locals are kept", x.latest(4), 6);
        CHECK.due("17: whole", x.value(0, 0), 7);
        x.body(direct, -1);
        x.body(below, pen.let(4, pen.list(7, 8), pen.then(pen.left(pen.local(4)), pen.call(f, lost))));
        x.lay();
        x.run(below, 0, 0, 0);
        CHECK.due("13: not if they do not matter behind the CALL", x.latest(4), 0);
    }

    private static void collectedThroughPairs() {
        Loom x = fresh();
        Pen pen = new Pen(x);
        int one = pen.number(1);
        int lost = pen.pair(1, one, pen.nil(1));
        int l = pen.local(0);
        // A circle of two: it stays while it is led to, and goes at once when it is not.
        int circle = pen.then(pen.putRight(pen.right(l), l), l);
        int f = laidAs(x, 0, pen.let(0, pen.list(1, 2), pen.then(circle, pen.then(lost, pen.left(l)))));
        x.force(3);
        x.run(f, 0, 0, 0);
        latest("13: a circle stays", x, 1, x.latest(1), 1, 9, 6, 1, 0);
        x.body(f, pen.let(0, pen.list(1, 2), pen.then(circle, pen.then(lost, one))));
        x.lay();
        x.run(f, 0, 0, 0);
        latest("13: a circle goes", x, 1, x.latest(1), 1, 3, 0, 1, 0);
        // PUTRIGHT of NIL cuts the tail off.
        x.body(f, pen.let(0, pen.list(1, 2, 3),
                pen.then(pen.putRight(l, pen.nil(1)), pen.then(lost, pen.left(l)))));
        x.lay();
        x.force(4);
        x.run(f, 0, 0, 0);
        CHECK.due("13: what was cut off goes", x.latest(4), 3);
        // By a left, too.
        x.body(f, pen.let(0, pen.pair(2, pen.list(1, 2, 3), one), pen.then(lost, pen.left(pen.left(l)))));
        x.lay();
        x.force(5);
        x.run(f, 0, 0, 0);
        CHECK.due("13: by a left", x.latest(4), 12);
        CHECK.due("17: by a left", x.value(0, 0), 1);
    }

    /** A CALL that would make a 25th frame is begun, so it is collected before it. */
    private static void collectedAtTheLastCall() {
        Loom x = fresh();
        Pen pen = new Pen(x);
        x.function(0, 0, 0, 0, 0);
        x.body(0, pen.then(pen.list(1), pen.call(0)));
        x.lay();
        x.force(48);
        x.heap(600);
        CHECK.due("13: over at the 24th CALL", x.run(0, 0, 0, 0), 4);
        latest("13: collected before it", x, 4, 24 * 5, 1, 0, 0, 24, 0);
    }

    /** INTs that look like pairs lead nowhere. */
    private static void collectedLeavesIntsAlone() {
        Loom x = fresh();
        Pen pen = new Pen(x);
        x.function(0, 3, 0, 0, 0);
        int lost = pen.pair(1, pen.number(1), pen.pair(1, pen.number(2), pen.nil(1)));
        int a = pen.local(0);
        int held = pen.pair(1, a, pen.nil(1));
        x.body(0, pen.add(a, pen.let(4, held, pen.then(lost, pen.then(lost,
                pen.add(pen.left(pen.local(4)), pen.local(1)))))));
        x.lay();
        x.force(1);
        for (int v = -1; v <= 6; v++) {
            CHECK.due("13: run with " + v, x.run(0, v, v, v), 1);
            latest("13: run with " + v, x, 1, 23, 5, 9, 6, 1, 0);
            CHECK.due("17: three of " + v, x.value(0, 0), 3 * v);
        }
        x.run(0, Integer.MAX_VALUE, Integer.MIN_VALUE, 0);
        CHECK.due("13: great INTs", x.latest(4), 6);
    }

    private static void latestAnswers() {
        Loom x = fresh();
        Pen pen = new Pen(x);
        for (int what = 0; what <= 6; what++) {
            CHECK.due("14: no run, " + what, x.latest(what), -1);
        }
        int f = laidAs(x, 1, pen.then(pen.out(pen.number(3)), pen.list(1, 2)));
        CHECK.due("14: laid down, no run", x.latest(3), -1);
        x.force(2);
        x.run(f, 0, 0, 0);
        latest("14", x, 1, 9, 1, 6, 3, 1, 1);
        CHECK.due("14: what 7", x.latest(7), -1);
        CHECK.due("14: what -1", x.latest(-1), -1);
        CHECK.due("14: what MAX", x.latest(Integer.MAX_VALUE), -1);
        CHECK.due("14: what MIN", x.latest(Integer.MIN_VALUE), -1);
        x.type(4, 1, 1);
        x.function(0, 0, 0, 0, 0);
        x.node(0, 0, 0, 0);
        x.body(f, -1);
        x.heap(3);
        x.force(7);
        latest("14: it stays until lay", x, 1, 9, 1, 6, 3, 1, 1);
    }

    private static void outAnswers() {
        Loom x = fresh();
        Pen pen = new Pen(x);
        x.function(0, 1, 0, 0, 0);
        int a = pen.local(0);
        x.body(0, pen.add(pen.out(a), pen.out(pen.add(a, pen.out(pen.number(-4))))));
        x.lay();
        x.run(0, 10, 0, 0);
        int[] want = {10, -4, 6, 0};
        for (int i = 0; i < 4; i++) {
            CHECK.due("15: out(" + i + ")", x.out(i), want[i]);
        }
        CHECK.due("15: OUT answers the INT", x.value(0, 0), 16);
        CHECK.due("15: out(-1)", x.out(-1), 0);
        CHECK.due("15: out(64)", x.out(64), 0);
        CHECK.due("15: out(MIN)", x.out(Integer.MIN_VALUE), 0);
        CHECK.due("15: out(MAX)", x.out(Integer.MAX_VALUE), 0);
        int deep = pen.number(1);
        for (int k = 0; k < 70; k++) {
            deep = pen.out(k % 2 == 0 ? pen.add(deep, pen.number(1)) : deep);
        }
        x.body(0, deep);
        x.lay();
        x.run(0, 0, 0, 0);
        CHECK.due("15: 64 at most", x.latest(6), 64);
        CHECK.due("15: the first", x.out(0), 2);
        CHECK.due("15: the 64th", x.out(63), 33);
        CHECK.due("15: no 65th", x.out(64), 0);
        CHECK.due("17: the run goes on", x.value(0, 0), 36);
    }

    private static void tellAnswers() {
        Loom x = fresh();
        Pen pen = new Pen(x);
        int f = laidAs(x, 2, pen.pair(2, pen.list(11, 12), pen.number(13)));
        CHECK.due("16: no run", x.tell(0, 0), -1);
        x.run(f, 0, 0, 0);
        int[][] rows = {
            // path, n, tell, value
            {0, 0, 2, 0}, {1, 1, 0, 13}, {0, 1, 2, 0}, {0, 2, 0, 11}, {2, 2, 2, 0}, {2, 3, 0, 12},
            {6, 3, 1, 0}, {6, 4, -1, 0}, {14, 4, -1, 0}, {1, 2, -1, 0}, {0, 3, -1, 0}, {1, 20, -1, 0},
            {-1, 0, 2, 0}, {-1, 1, 0, 13}, {-2, 2, 2, 0}, {-6, 3, 0, 12},
            {0, -1, -1, 0}, {0, 21, -1, 0}, {0, Integer.MAX_VALUE, -1, 0}, {0, Integer.MIN_VALUE, -1, 0},
        };
        for (int[] row : rows) {
            CHECK.due("16: tell(" + row[0] + ", " + row[1] + ")", x.tell(row[0], row[1]), row[2]);
            CHECK.due("17: value(" + row[0] + ", " + row[1] + ")", x.value(row[0], row[1]), row[3]);
        }
        int nil = laidAs(x, 2, pen.nil(2));
        x.run(nil, 0, 0, 0);
        CHECK.due("16: NIL", x.tell(0, 0), 1);
        CHECK.due("16: a step at NIL", x.tell(0, 1), -1);
        CHECK.due("17: NIL is no INT", x.value(0, 0), 0);
        int zero = laidAs(x, 0, pen.number(0));
        x.run(zero, 0, 0, 0);
        CHECK.due("16: 0 is an INT", x.tell(0, 0), 0);
        CHECK.due("16: a step at an INT", x.tell(0, 1), -1);
        int three = laidAs(x, 0, pen.number(3));
        x.run(three, 0, 0, 0);
        CHECK.due("16: 3 is an INT", x.tell(0, 0), 0);
        CHECK.due("17: 3", x.value(0, 0), 3);
        CHECK.due("17: not behind it", x.value(0, 1), 0);
    }

    /** Twenty steps in a circle of three. */
    private static void tellInCircles() {
        Loom x = fresh();
        Pen pen = new Pen(x);
        int l = pen.local(0);
        int last = pen.right(pen.right(l));
        int f = laidAs(x, 1, pen.let(0, pen.list(1, 2, 3), pen.then(pen.putRight(last, l), l)));
        CHECK.due("13: run", x.run(f, 0, 0, 0), 1);
        CHECK.due("16: 20 steps", x.tell(-1, 20), 2);
        CHECK.due("16: 21 steps", x.tell(-1, 21), -1);
        CHECK.due("17: 19 to the right, one to the left", x.value((1 << 19) - 1, 20), 2);
        CHECK.due("16: the 20th bit counts", x.tell((1 << 19) - 1, 20), 0);
        CHECK.due("17: 18 to the right, one to the left", x.value((1 << 18) - 1, 19), 1);
    }
}
