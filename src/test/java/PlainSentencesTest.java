/**
 * The sentences of the document that name no edge, in its order: what the language is, what each
 * instruction takes and puts, and what each call answers and changes in the ordinary way.
 */
public final class PlainSentencesTest {
    private static final Check CHECK = new Check("PlainSentencesTest");

    public static void main(String[] args) {
        whatItIs();
        takeTwo();
        takeOne();
        takeArguments();
        putOne();
        putHalvesAndAnswers();
        functionMore();
        nodeOfAKind();
        bodyIs();
        layDownAnew();
        ofWhatIsLaidDown();
        ofInstruction();
        firstInstruction();
        ofTheMap();
        heapHasSoManyWords();
        forceIsN();
        runOfAFunction();
        ofTheLatestRun();
        putOutByTheLatestRun();
        fromTheResultOn();
        theIntThere();
        CHECK.end();
    }

    /** Type 1 is (INT, 1), 2 is (1, INT). */
    private static Loom fresh() {
        Loom x = new Loom();
        x.type(1, 0, 1);
        x.type(2, 1, 0);
        return x;
    }

    private static int laidAs(Loom x, int result, int body) {
        int f = x.function(result, 0, 0, 0, 0);
        x.body(f, body);
        if (f < 0 || x.lay() < 0) {
            throw new IllegalStateException("the test wrote a body that can't be");
        }
        return f;
    }

    private static void whatItIs() {
        CHECK.sentence("A small language with pairs, laid down as instructions of a machine with a heap of so many words");
        Loom x = fresh();
        Pen pen = new Pen(x);
        int lost = pen.pair(1, pen.number(9), pen.nil(1));
        int body = pen.let(0, pen.list(1, 2), pen.let(1, pen.list(3), pen.then(lost, pen.left(pen.local(0)))));
        int f = laidAs(x, 0, body);
        CHECK.due("laid(0)", x.laid(0), 17);
        x.heap(12);
        CHECK.due("four pairs in 12 words", x.run(f, 0, 0, 0), 1);
        CHECK.due("value(0, 0)", x.value(0, 0), 1);
        x.heap(6);
        CHECK.due("two that still matter and a third in 6 words", x.run(f, 0, 0, 0), 3);
        CHECK.sentence("where something may be collected, maps tell which places of a frame still matter");
        // The NEWs are at 3, 4, 8 and 12; only local 0 is read behind the last.
        CHECK.due("the second NEW: no local", x.map(4, 0), 0);
        CHECK.due("the third NEW: local 0", x.map(8, 0), 1);
        CHECK.due("the last NEW: local 0", x.map(12, 0), 1);
        CHECK.due("the last NEW: what it takes", x.map(12, 1), 2);
        CHECK.sentence("what is led to from these is kept, all else goes");
        x.heap(9);
        CHECK.due("9 words are enough", x.run(f, 0, 0, 0), 1);
        CHECK.due("it was collected", x.latest(2), 1);
        CHECK.due("the list in local 0 is kept, that in local 1 goes", x.latest(4), 6);
    }

    /** 1000 waits below: if too many or too few are taken, another difference comes out. */
    private static void takes(String name, Loom x, Pen pen, int expression, int want, int most) {
        x.body(0, pen.sub(pen.number(1000), expression));
        x.lay();
        CHECK.due(name + ": run", x.run(0, 0, 0, 0), 1);
        CHECK.due(name + ": 1000 and what it put", x.value(0, 0), 1000 - want);
        CHECK.due(name + ": the most values", x.laid(2), most);
    }

    private static void takeTwo() {
        CHECK.sentence("ADD, SUB, LESS, NEW, PUTLEFT, PUTRIGHT take two");
        Loom x = fresh();
        Pen pen = new Pen(x);
        x.function(0, 0, 0, 0, 0);
        int seven = pen.number(7);
        int three = pen.number(3);
        int nil = pen.nil(1);
        int pair = pen.pair(1, seven, nil);
        takes("ADD", x, pen, pen.add(seven, three), 10, 3);
        takes("SUB", x, pen, pen.sub(seven, three), 4, 3);
        takes("LESS", x, pen, pen.less(three, seven), 1, 3);
        takes("NEW", x, pen, pen.left(pair), 7, 3);
        takes("PUTLEFT", x, pen, pen.putLeft(pair, three), 3, 3);
        takes("PUTRIGHT", x, pen, pen.empty(pen.putRight(pair, nil)), 1, 3);
    }

    private static void takeOne() {
        CHECK.sentence("LEFT, RIGHT, EMPTY, PUT, STORE, ZERO, DROP one");
        Loom x = fresh();
        Pen pen = new Pen(x);
        x.function(0, 0, 0, 0, 0);
        int seven = pen.number(7);
        int three = pen.number(3);
        int list = pen.let(5, pen.pair(1, seven, pen.nil(1)), pen.local(5));
        takes("LEFT", x, pen, pen.left(list), 7, 3);
        takes("RIGHT", x, pen, pen.empty(pen.right(list)), 1, 3);
        takes("EMPTY", x, pen, pen.empty(pen.nil(1)), 1, 2);
        takes("PUT", x, pen, pen.out(seven), 7, 2);
        takes("STORE", x, pen, pen.let(2, three, seven), 7, 2);
        takes("ZERO that goes on at the next", x, pen, pen.choose(three, seven, three), 7, 2);
        takes("ZERO that goes on at its place", x, pen, pen.choose(pen.number(0), three, seven), 7, 2);
        takes("DROP", x, pen, pen.then(three, seven), 7, 2);
    }

    private static void takeArguments() {
        CHECK.sentence("CALL as many as it has ARGs, RET one");
        Loom x = fresh();
        Pen pen = new Pen(x);
        x.function(0, 0, 0, 0, 0);
        int seven = pen.number(7);
        for (int many = 0; many <= 3; many++) {
            x.function(0, many, 0, 0, 0);
            x.body(many + 1, seven);
        }
        takes("CALL without ARGs", x, pen, pen.call(1), 7, 2);
        takes("CALL with one", x, pen, pen.call(2, seven), 7, 2);
        takes("CALL with two", x, pen, pen.call(3, seven, seven), 7, 3);
        takes("CALL with three", x, pen, pen.call(4, seven, seven, seven), 7, 4);
        CHECK.due("all frames have ended", x.latest(5), 2);
    }

    private static void putOne() {
        CHECK.sentence("PUSH, NULL, LOAD, ADD, SUB, LESS (1 or 0)");
        Loom x = fresh();
        Pen pen = new Pen(x);
        x.function(0, 0, 0, 0, 0);
        int seven = pen.number(7);
        int three = pen.number(3);
        takes("PUSH", x, pen, seven, 7, 2);
        takes("NULL", x, pen, pen.empty(pen.nil(2)), 1, 2);
        takes("LOAD", x, pen, pen.let(6, three, pen.local(6)), 3, 2);
        takes("ADD", x, pen, pen.add(three, seven), 10, 3);
        takes("SUB", x, pen, pen.sub(three, seven), -4, 3);
        takes("LESS: 1", x, pen, pen.less(three, seven), 1, 3);
        takes("LESS: 0", x, pen, pen.less(seven, three), 0, 3);
        takes("LESS: 0 of equal ones", x, pen, pen.less(seven, seven), 0, 3);
    }

    private static void putHalvesAndAnswers() {
        CHECK.sentence("NEW, LEFT, RIGHT, EMPTY (1 if it is NIL, else 0)");
        Loom x = fresh();
        Pen pen = new Pen(x);
        x.function(0, 0, 0, 0, 0);
        int seven = pen.number(7);
        int three = pen.number(3);
        int list = pen.pair(1, seven, pen.pair(1, three, pen.nil(1)));
        takes("NEW", x, pen, pen.empty(pen.pair(2, pen.nil(1), seven)), 0, 3);
        takes("LEFT", x, pen, pen.left(list), 7, 4);
        takes("RIGHT", x, pen, pen.left(pen.right(list)), 3, 4);
        takes("EMPTY: 1", x, pen, pen.empty(pen.right(pen.right(list))), 1, 4);
        takes("EMPTY: 0", x, pen, pen.empty(pen.right(list)), 0, 4);
        CHECK.sentence("CALL (what it answers), PUTLEFT, PUTRIGHT (what was put), PUT (the int) put one");
        x.function(0, 2, 0, 0, 0);
        x.body(1, pen.sub(pen.local(0), pen.local(1)));
        takes("CALL", x, pen, pen.call(1, seven, three), 4, 3);
        takes("PUTLEFT", x, pen, pen.putLeft(list, three), 3, 4);
        takes("PUTRIGHT", x, pen, pen.left(pen.putRight(list, pen.pair(1, pen.number(5), pen.nil(1)))), 5, 4);
        takes("PUT", x, pen, pen.out(three), 3, 2);
        CHECK.due("it was put out", x.out(0), 3);
    }

    private static void functionMore() {
        CHECK.sentence("3: A function more, with a result's type, so many parameters, their types");
        Loom x = fresh();
        Pen pen = new Pen(x);
        CHECK.due("the first", x.function(2, 3, 0, 1, 2), 0);
        CHECK.due("the second", x.function(0, 0, 0, 0, 0), 1);
        int[] locals = {pen.local(0), pen.local(1), pen.local(2)};
        x.body(0, pen.pair(2, locals[1], locals[0]));
        CHECK.due("an INT and a 1 make a 2", x.lay(), 4);
        x.body(0, pen.pair(2, locals[0], locals[1]));
        CHECK.due("not the other way round", x.lay(), -3);
        x.body(0, locals[2]);
        CHECK.due("the third is a 2", x.lay(), 2);
        x.body(0, locals[1]);
        CHECK.due("the second is none", x.lay(), -3);
        x.body(0, locals[2]);
        int[] given = {pen.number(1), pen.nil(1), pen.nil(2)};
        x.body(1, pen.empty(pen.call(0, given)));
        CHECK.due("a CALL with arguments of these types", x.lay(), 8);
        x.body(1, pen.empty(pen.call(0, given[0], given[2], given[1])));
        CHECK.due("a CALL with the last two changed", x.lay(), -3);
    }

    private static void nodeOfAKind() {
        CHECK.sentence("4: A node of a kind: its number");
        Loom x = fresh();
        x.function(0, 1, 0, 0, 0);
        int[][] nodes = {{2, 0, 0}, {0, 12, 0}, {3, 0, 1}, {4, 2, 0}, {5, 3, 2}, {16, 4, 0}, {17, 5, 3}};
        for (int k = 0; k < nodes.length; k++) {
            CHECK.due("the next number", x.node(nodes[k][0], nodes[k][1], nodes[k][2], 0), k);
        }
        int[] values = {30, 12, 42, 12, 1, 1, 12};
        for (int k = 0; k < nodes.length; k++) {
            x.body(0, k);
            x.lay();
            x.run(0, 30, 0, 0);
            CHECK.due("node " + k + " is what was written", x.value(0, 0), values[k]);
        }
        CHECK.sentence("4: if that is not so, there is no such kind, or there are 150");
        CHECK.due("a part that is not there", x.node(16, 7, 0, 0), -1);
        CHECK.due("no such kind", x.node(18, 0, 0, 0), -1);
        for (int k = 7; k < 150; k++) {
            CHECK.due("one more", x.node(0, k, 0, 0), k);
        }
        CHECK.due("there are 150", x.node(0, 0, 0, 0), -1);
    }

    private static void bodyIs() {
        CHECK.sentence("5: A function's BODY is an expression, or none (-1): true");
        Loom x = fresh();
        Pen pen = new Pen(x);
        x.function(0, 0, 0, 0, 0);
        x.function(0, 0, 0, 0, 0);
        CHECK.due("body(0, ..)", x.body(0, pen.number(5)), true);
        CHECK.due("body(1, ..)", x.body(1, pen.number(6)), true);
        CHECK.due("lay()", x.lay(), 4);
        x.run(0, 0, 0, 0);
        CHECK.due("that of the first", x.value(0, 0), 5);
        x.run(1, 0, 0, 0);
        CHECK.due("that of the second", x.value(0, 0), 6);
        CHECK.due("another", x.body(1, pen.number(7)), true);
        x.lay();
        x.run(1, 0, 0, 0);
        CHECK.due("it has that now", x.value(0, 0), 7);
        CHECK.due("none", x.body(0, -1), true);
        CHECK.due("the second alone", x.lay(), 2);
    }

    private static void layDownAnew() {
        CHECK.sentence("6: All is laid down anew, with the types as they are: how many instructions");
        Loom x = fresh();
        Pen pen = new Pen(x);
        x.function(1, 0, 0, 0, 0);
        x.body(0, pen.list(4));
        CHECK.due("lay()", x.lay(), 4);
        CHECK.due("laid(0)", x.laid(0), 4);
        x.body(0, pen.list(4, 5));
        CHECK.due("not yet", x.laid(0), 4);
        CHECK.due("lay() again", x.lay(), 6);
        CHECK.due("laid(0) now", x.laid(0), 6);
        CHECK.due("the first instruction", x.instruction(0, 1), 4);
        CHECK.due("the second", x.instruction(1, 1), 5);
        x.type(1, 0, 2);
        CHECK.due("what was a 1 is none now", x.lay(), RootLoom.ILL);
    }

    private static void ofWhatIsLaidDown() {
        CHECK.sentence("7: Of what is laid down, what 0: how many instructions there are, "
                + "1: how many NEWs and CALLs, 2: the most values that a pile may have");
        Loom x = fresh();
        Pen pen = new Pen(x);
        x.function(1, 1, 0, 0, 0);
        x.body(0, pen.pair(1, pen.local(0), pen.nil(1)));
        int call = pen.call(0, pen.number(2));
        laidAs(x, 0, pen.add(pen.left(call), pen.add(pen.left(call), pen.left(pen.list(1, 2, 3)))));
        CHECK.due("laid(0)", x.laid(0), 4 + 3 + 3 + 8 + 2 + 1);
        CHECK.due("laid(1)", x.laid(1), 1 + 2 + 3);
        CHECK.due("laid(2)", x.laid(2), 2 + 4);
    }

    private static void ofInstruction() {
        CHECK.sentence("8: Of instruction i, what 0: its number ... 1: its a, or where it goes to");
        Loom x = fresh();
        Pen pen = new Pen(x);
        x.function(0, 2, 0, 1, 0);
        x.body(0, pen.choose(pen.local(0), pen.left(pen.local(1)), pen.number(-6)));
        x.lay();
        int[] row = {2, 0, 10, 5, 2, 1, 7, 0, 11, 6, 0, -6, 14, 0};
        for (int i = 0; i < row.length / 2; i++) {
            CHECK.due("instruction(" + i + ", 0)", x.instruction(i, 0), row[2 * i]);
            CHECK.due("instruction(" + i + ", 1)", x.instruction(i, 1), row[2 * i + 1]);
        }
    }

    private static void firstInstruction() {
        CHECK.sentence("9: The first instruction of a function");
        Loom x = fresh();
        Pen pen = new Pen(x);
        laidAs(x, 0, pen.add(pen.number(10), pen.number(20)));
        laidAs(x, 0, pen.number(30));
        laidAs(x, 0, pen.number(40));
        int[] entries = {0, 4, 6};
        for (int f = 0; f < 3; f++) {
            CHECK.due("entry(" + f + ")", x.entry(f), entries[f]);
        }
        CHECK.due("there the second begins", x.instruction(x.entry(1), 1), 30);
    }

    private static void ofTheMap() {
        CHECK.sentence("10: Of the MAP of instruction i, which 0: the locals, 1: the values on the pile");
        Loom x = fresh();
        Pen pen = new Pen(x);
        x.function(0, 3, 1, 0, 2);
        // LOAD 2, PUSH, LOAD 0, NEW 1, LOAD 0, CALL: behind the NEW both pairs are read or wait.
        x.function(0, 3, 2, 1, 1);
        x.body(1, pen.number(0));
        int call = pen.call(1, pen.local(2), pen.pair(1, pen.number(5), pen.local(0)), pen.local(0));
        x.body(0, pen.then(call, pen.right(pen.local(2))));
        x.lay();
        CHECK.due("the NEW", x.instruction(3, 0), 6);
        CHECK.due("behind the NEW locals 0 and 2 are read", x.map(3, 0), 5);
        CHECK.due("at the NEW: a 2, an INT, a 1", x.map(3, 1), 5);
        CHECK.due("the CALL", x.instruction(5, 0), 13);
        CHECK.due("behind the CALL local 2 is read", x.map(5, 0), 4);
        CHECK.due("at the CALL: three pairs", x.map(5, 1), 7);
    }

    private static void heapHasSoManyWords() {
        CHECK.sentence("11: The heap has so many words, in the runs that come: true");
        Loom x = fresh();
        int f = laidAs(x, 1, new Pen(x).list(1, 2, 3, 4));
        for (int words = 3; words <= 18; words++) {
            CHECK.due("heap(" + words + ")", x.heap(words), true);
            CHECK.due("four pairs in " + words + " words", x.run(f, 0, 0, 0), words < 12 ? 3 : 1);
            CHECK.due("words at the end", x.latest(3), Math.min(12, words / 3 * 3));
        }
    }

    private static void forceIsN() {
        CHECK.sentence("12: FORCE is n, in the runs that come: true");
        Loom x = fresh();
        int f = laidAs(x, 1, new Pen(x).list(1, 2, 3, 4, 5, 6));
        int[] collected = {0, 6, 3, 2, 1, 1, 1, 0};
        for (int n = 0; n < collected.length; n++) {
            CHECK.due("force(" + n + ")", x.force(n), true);
            CHECK.due("run", x.run(f, 0, 0, 0), 1);
            CHECK.due("six NEWs with FORCE " + n, x.latest(2), collected[n]);
        }
    }

    private static void runOfAFunction() {
        CHECK.sentence("13: A run of a function with INTs as arguments");
        Loom x = fresh();
        Pen pen = new Pen(x);
        x.function(0, 3, 0, 0, 0);
        x.body(0, pen.sub(pen.local(0), pen.sub(pen.local(1), pen.local(2))));
        x.function(0, 2, 0, 0, 0);
        x.body(1, pen.less(pen.local(0), pen.local(1)));
        x.lay();
        CHECK.due("run(0, ..)", x.run(0, 50, 7, 3), 1);
        CHECK.due("50 - (7 - 3)", x.value(0, 0), 46);
        CHECK.due("run(1, ..)", x.run(1, 50, 7, 3), 1);
        CHECK.due("50 < 7", x.value(0, 0), 0);
        CHECK.due("run(1, ..) again", x.run(1, 7, 50, 3), 1);
        CHECK.due("7 < 50", x.value(0, 0), 1);
    }

    private static void ofTheLatestRun() {
        CHECK.sentence("14: Of the latest run, what 0: how it was over, 1: steps, 2: how often it was collected, "
                + "3: the words of PAIRs that were there at its end, 4: those that stayed when it was collected latest");
        Loom x = fresh();
        Pen pen = new Pen(x);
        int n = pen.local(0);
        x.function(1, 1, 0, 0, 0);
        int deeper = pen.call(0, pen.sub(n, pen.number(1)));
        // LOAD, ZERO, then LOAD, PUT, LOAD, PUSH, SUB, CALL, NEW, JUMP, RET; at the bottom NULL, RET.
        x.body(0, pen.choose(n, pen.pair(1, pen.out(n), deeper), pen.nil(1)));
        x.lay();
        x.force(2);
        CHECK.due("run(0, 3)", x.run(0, 3, 0, 0), 1);
        // The CALLs are 1 to 3, the NEWs 4 to 6: collected at 2, 4 and 6, with 2 pairs before the last.
        int[] want = {1, 3 * 11 + 4, 3, 9, 6, 4, 3};
        for (int what = 0; what < want.length; what++) {
            CHECK.due("latest(" + what + ")", x.latest(what), want[what]);
        }
        CHECK.sentence("14: 5: the most frames at once, 6: how many ints were put out (64 at most)");
        CHECK.due("run(0, 10)", x.run(0, 10, 0, 0), 1);
        CHECK.due("frames", x.latest(5), 11);
        CHECK.due("put out", x.latest(6), 10);
    }

    private static void putOutByTheLatestRun() {
        CHECK.sentence("15: The i-th int, from 0 on, that the latest run put out");
        Loom x = fresh();
        Pen pen = new Pen(x);
        x.function(0, 2, 0, 0, 0);
        x.body(0, pen.out(pen.sub(pen.out(pen.local(0)), pen.out(pen.local(1)))));
        x.lay();
        for (int k = 5; k < 8; k++) {
            x.run(0, 10 * k, k, 0);
            CHECK.due("out(0)", x.out(0), 10 * k);
            CHECK.due("out(1)", x.out(1), k);
            CHECK.due("out(2)", x.out(2), 9 * k);
            CHECK.due("out(3)", x.out(3), 0);
        }
    }

    private static void fromTheResultOn() {
        CHECK.sentence("16: From the latest run's RESULT on n steps, "
                + "step k, from 0 on, to the right if bit k of path is set, else to the left");
        Loom x = fresh();
        Pen pen = new Pen(x);
        int f = laidAs(x, 2, pen.pair(2, pen.list(5, 6), pen.number(7)));
        x.run(f, 0, 0, 0);
        CHECK.due("the RESULT", x.tell(0, 0), 2);
        CHECK.due("left", x.tell(0, 1), 2);
        CHECK.due("right", x.tell(1, 1), 0);
        CHECK.due("left left", x.tell(0, 2), 0);
        CHECK.due("left right", x.tell(2, 2), 2);
        CHECK.due("left right left", x.tell(2, 3), 0);
        CHECK.due("left right right", x.tell(6, 3), 1);
        CHECK.due("right left", x.tell(1, 2), -1);
        CHECK.due("left right right left", x.tell(6, 4), -1);
    }

    private static void theIntThere() {
        CHECK.sentence("17: The INT there");
        Loom x = fresh();
        Pen pen = new Pen(x);
        int f = laidAs(x, 2, pen.pair(2, pen.list(5, 6), pen.number(7)));
        x.run(f, 0, 0, 0);
        CHECK.due("right", x.value(1, 1), 7);
        CHECK.due("left left", x.value(0, 2), 5);
        CHECK.due("left right left", x.value(2, 3), 6);
    }
}
