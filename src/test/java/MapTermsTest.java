/** 'Terms': what MATTERS, and the MAP of a NEW or CALL. */
public final class MapTermsTest {
    private static final Check CHECK = new Check("MapTermsTest");

    public static void main(String[] args) {
        fromTheOneDoneNext();
        withoutAStoreBefore();
        eitherWayOfEachZero();
        behindAJump();
        inTheSameFunction();
        eachLocal();
        ofAPairTypeThere();
        callsToo();
        eachPlaceOfThePile();
        whatItTakesIsStillThere();
        emptyPile();
        pileInBranches();
        typesAsAtLay();
        CHECK.end();
    }

    /** Type 1 is (INT, 1), 4 is (4, 4); function 0 takes a 1, an INT and a 1. */
    private static Loom fresh() {
        Loom x = new Loom();
        x.type(1, 0, 1);
        x.type(4, 4, 4);
        x.function(0, 3, 1, 0, 1);
        return x;
    }

    /** Where the only NEW of function 0 lies, with that body. */
    private static int newIn(Loom x, int body) {
        x.body(0, body);
        int count = x.lay();
        if (x.laid(1) != 1) {
            throw new IllegalStateException("the test wrote a body without one NEW");
        }
        for (int i = 0; i < count; i++) {
            if (x.map(i, 0) != -1) {
                return i;
            }
        }
        throw new IllegalStateException("the NEW has no map");
    }

    private static void locals(String name, Loom x, int body, int want) {
        CHECK.due(name, x.map(newIn(x, body), 0), want);
    }

    private static void fromTheOneDoneNext() {
        CHECK.sentence("A local MATTERS behind an instruction "
                + "if from the one that is done next one can come to a LOAD of it");
        Loom x = fresh();
        Pen pen = new Pen(x);
        int one = pen.number(1);
        int l = pen.local(0);
        int made = pen.pair(1, one, pen.nil(1));
        locals("none is read, the RET is next but one", x, pen.left(made), 0);
        locals("the LOAD is the next", x, pen.then(pen.putRight(made, l), one), 1);
        locals("the LOAD is the next but one", x, pen.then(made, pen.left(l)), 1);
        locals("the LOAD is the one before", x, pen.left(pen.pair(1, one, l)), 0);
        locals("a LOAD before it and one behind", x, pen.then(pen.pair(1, one, l), pen.left(l)), 1);
        int late = pen.left(l);
        for (int k = 0; k < 60; k++) {
            late = pen.then(one, late);
        }
        locals("the LOAD is far behind", x, pen.then(made, late), 1);
    }

    private static void withoutAStoreBefore() {
        CHECK.sentence("without a STORE of it before");
        Loom x = fresh();
        Pen pen = new Pen(x);
        int one = pen.number(1);
        int made = pen.pair(1, one, pen.nil(1));
        int three = pen.left(pen.local(3));
        int again = pen.let(3, pen.nil(1), three);
        locals("in b, the STORE is the next", x, pen.let(3, made, three), 0);
        locals("in b, the STORE is later", x, pen.let(3, pen.then(made, pen.nil(1)), three), 0);
        locals("in c", x, pen.let(3, pen.nil(1), pen.then(made, three)), 8);
        locals("in c, read before it only", x, pen.let(3, pen.nil(1), pen.add(three, pen.left(made))), 0);
        locals("in c, the next LET stores it", x, pen.add(pen.let(3, pen.nil(1), pen.left(made)), again), 0);
        locals("in c, read, and the next LET stores it", x,
                pen.add(pen.let(3, pen.nil(1), pen.then(made, three)), again), 8);
        locals("behind c", x, pen.add(again, pen.left(made)), 0);
        locals("before it", x, pen.then(made, again), 0);
        locals("a STORE of another does not count", x,
                pen.let(3, pen.nil(1), pen.then(made, pen.let(4, one, three))), 8);
    }

    private static void eitherWayOfEachZero() {
        CHECK.sentence("by either way of each ZERO");
        Loom x = fresh();
        Pen pen = new Pen(x);
        int one = pen.number(1);
        int made = pen.pair(1, one, pen.nil(1));
        int first = pen.left(pen.local(0));
        int third = pen.left(pen.local(2));
        locals("by the first way", x, pen.then(made, pen.choose(one, first, one)), 1);
        locals("by the second way", x, pen.then(made, pen.choose(one, one, first)), 1);
        locals("one by each", x, pen.then(made, pen.choose(one, first, third)), 5);
        locals("by neither", x, pen.then(made, pen.choose(one, one, one)), 0);
        locals("in the test itself", x, pen.then(made, pen.choose(first, one, one)), 1);
        locals("behind both", x, pen.then(made, pen.add(pen.choose(one, one, one), third)), 4);
        int inner = pen.choose(one, one, pen.choose(one, first, one));
        locals("by a way inside a way", x, pen.then(made, pen.choose(one, inner, one)), 1);
        locals("by a way inside the other", x, pen.then(made, pen.choose(one, one, inner)), 1);
        int stored = pen.let(3, pen.nil(1), pen.left(pen.local(3)));
        int three = pen.left(pen.local(3));
        locals("stored in one way of another LET's time", x,
                pen.add(pen.let(3, pen.nil(1), pen.then(made, pen.choose(one, three, one))), stored), 8);
    }

    private static void behindAJump() {
        CHECK.sentence("from the one that is done next", "by a JUMP");
        Loom x = fresh();
        Pen pen = new Pen(x);
        int one = pen.number(1);
        int made = pen.left(pen.pair(1, one, pen.nil(1)));
        int first = pen.left(pen.local(0));
        int third = pen.left(pen.local(2));
        locals("in b: what c reads does not matter", x, pen.choose(one, made, first), 0);
        locals("in b: what is behind the IF does", x, pen.add(pen.choose(one, made, first), third), 4);
        locals("in c: what b reads does not matter", x, pen.choose(one, first, made), 0);
        locals("in c: what is behind the IF does", x, pen.add(pen.choose(one, first, made), third), 4);
        locals("in a: what both read does", x, pen.choose(made, first, third), 5);
        int pair = pen.pair(1, one, pen.nil(1));
        locals("the JUMP is the next", x, pen.left(pen.choose(one, pair, pen.local(0))), 0);
        locals("the JUMP is the next, a LOAD behind it", x,
                pen.add(pen.left(pen.choose(one, pair, pen.local(0))), third), 4);
        locals("the last of c, a LOAD behind it", x,
                pen.add(pen.left(pen.choose(one, pen.local(0), pair)), third), 4);
    }

    private static void inTheSameFunction() {
        CHECK.sentence("(in the same function)");
        Loom x = fresh();
        Pen pen = new Pen(x);
        int one = pen.number(1);
        int made = pen.pair(1, one, pen.nil(1));
        x.function(0, 3, 1, 0, 1);
        int reads = pen.add(pen.left(pen.local(0)), pen.left(pen.local(2)));
        x.body(1, reads);
        locals("the next function reads both", x, pen.left(made), 0);
        x.body(1, pen.left(made));
        x.body(0, reads);
        x.lay();
        CHECK.due("the function before reads both", x.map(x.entry(1) + 2, 0), 0);
        // LOAD 0, PUSH, LOAD 2, CALL 1: the called one reads its own locals.
        x.body(1, reads);
        x.body(0, pen.call(1, pen.local(0), one, pen.local(2)));
        x.lay();
        CHECK.due("what the called one reads", x.map(3, 0), 0);
    }

    private static void eachLocal() {
        CHECK.sentence("the locals that matter behind it and are of a pair type there, as bits");
        Loom x = new Loom();
        x.type(1, 0, 1);
        x.function(0, 0, 0, 0, 0);
        Pen pen = new Pen(x);
        int one = pen.number(1);
        int nil = pen.nil(1);
        int made = pen.pair(1, one, nil);
        int[] read = new int[8];
        int all = one;
        for (int local = 0; local < 8; local++) {
            read[local] = pen.left(pen.local(local));
            all = pen.add(all, read[local]);
            locals("local " + local, x, pen.let(local, nil, pen.then(made, read[local])), 1 << local);
        }
        locals("all of them", x, nest(pen, 0, nil, pen.then(made, all)), 255);
        locals("none of them", x, nest(pen, 0, nil, pen.add(all, pen.left(made))), 0);
        locals("all but 0", x, nest(pen, 1, nil, pen.let(0, nil, pen.then(made, pen.sub(all, one)))), 255);
        int odd = pen.add(pen.add(read[1], read[3]), pen.add(read[5], read[7]));
        locals("the odd ones", x, nest(pen, 0, nil, pen.then(made, odd)), 0xAA);
        locals("0 and 7", x, nest(pen, 0, nil, pen.then(made, pen.add(read[0], read[7]))), 0x81);
    }

    /** LETs of the locals from the given one on, all of b, around c. */
    private static int nest(Pen pen, int from, int b, int c) {
        int made = c;
        for (int local = 7; local >= from; local--) {
            made = pen.let(local, b, made);
        }
        return made;
    }

    private static void ofAPairTypeThere() {
        CHECK.sentence("and are of a pair type there");
        Loom x = fresh();
        Pen pen = new Pen(x);
        int one = pen.number(1);
        int made = pen.pair(1, one, pen.nil(1));
        int three = pen.local(3);
        locals("an INT parameter", x, pen.then(made, pen.local(1)), 0);
        locals("an INT beside a pair", x, pen.then(made, pen.add(pen.local(1), pen.left(pen.local(2)))), 4);
        locals("an INT of a LET", x, pen.let(3, one, pen.then(made, three)), 0);
        int asPair = pen.let(3, pen.nil(1), pen.left(three));
        int asInt = pen.let(3, one, three);
        locals("an INT there, a pair later", x, pen.add(pen.let(3, one, pen.then(made, three)), asPair), 0);
        locals("a pair there, an INT later", x,
                pen.add(pen.let(3, pen.nil(1), pen.then(made, pen.left(three))), asInt), 8);
        locals("an INT before, a pair there", x,
                pen.add(asInt, pen.let(3, pen.nil(1), pen.then(made, pen.left(three)))), 8);
        locals("a pair of type 7", x, pen.let(3, pen.nil(7), pen.then(made, pen.right(three))), 8);
    }

    private static void callsToo() {
        CHECK.sentence("The MAP of a NEW or CALL");
        Loom x = fresh();
        Pen pen = new Pen(x);
        int one = pen.number(1);
        int g = x.function(1, 1, 1, 0, 0);
        x.body(g, pen.local(0));
        int call = pen.call(g, pen.local(2));
        locals("what the CALL takes is read before it", x, pen.left(call), 0);
        locals("local 0 is read behind it", x, pen.then(call, pen.left(pen.local(0))), 1);
        locals("what it took is read again behind it", x, pen.then(call, pen.left(pen.local(2))), 4);
        locals("the CALL is stored, and read", x, pen.let(5, call, pen.left(pen.local(5))), 0);
        x.body(0, pen.then(call, pen.add(pen.left(pen.pair(1, one, pen.local(0))), pen.left(pen.local(2)))));
        x.lay();
        // LOAD 2, CALL, DROP, PUSH, LOAD 0, NEW
        CHECK.due("the CALL before the NEW", x.map(1, 0), 5);
        CHECK.due("the NEW behind the CALL", x.map(5, 0), 4);
        CHECK.due("two have maps", x.laid(1), 2);
        for (int i = 0; i < x.laid(0); i++) {
            boolean has = i == 1 || i == 5;
            CHECK.due("instruction " + i + " has one", x.map(i, 0) != -1 && x.map(i, 1) != -1, has);
        }
    }

    private static void eachPlaceOfThePile() {
        CHECK.sentence("the values on the pile, bit 0 the lowest, that are of pair types");
        Loom x = new Loom();
        x.type(1, 0, 1);
        x.type(4, 4, 4);
        x.function(4, 0, 0, 0, 0);
        x.function(1, 0, 0, 0, 0);
        Pen pen = new Pen(x);
        int nil = pen.nil(4);
        int deep = nil;
        for (int k = 0; k < 15; k++) {
            deep = pen.pair(4, nil, deep);
        }
        x.body(0, deep);
        x.lay();
        // 16 NULLs, then 15 NEWs.
        for (int k = 0; k < 15; k++) {
            CHECK.due("pairs alone, NEW " + k, x.map(16 + k, 1), (1 << 16 - k) - 1);
        }
        int one = pen.number(1);
        int list = pen.nil(1);
        for (int k = 0; k < 15; k++) {
            list = pen.pair(1, one, list);
        }
        x.body(0, -1);
        x.body(1, list);
        x.lay();
        for (int k = 0; k < 15; k++) {
            CHECK.due("INTs below a pair, NEW " + k, x.map(16 + k, 1), 1 << 15 - k);
        }
        int sum = pen.left(list);
        CHECK.due("16 values are the most", x.laid(2), 16);
        x.body(1, pen.then(pen.add(one, sum), pen.nil(1)));
        CHECK.due("17 are too many", x.lay(), RootLoom.TOO_LARGE);
    }

    private static void whatItTakesIsStillThere() {
        CHECK.sentence("(what it takes is still there)");
        Loom x = fresh();
        Pen pen = new Pen(x);
        int one = pen.number(1);
        int nil = pen.nil(1);
        int g = x.function(0, 3, 1, 0, 1);
        x.body(g, one);
        x.body(0, pen.call(g, nil, one, nil));
        x.lay();
        CHECK.due("a CALL that takes a pair, an INT, a pair", x.map(3, 1), 5);
        x.body(0, pen.add(one, pen.call(g, nil, one, nil)));
        x.lay();
        CHECK.due("an INT below", x.map(4, 1), 10);
        x.body(0, pen.then(pen.putRight(nil, pen.then(pen.call(g, nil, one, nil), nil)), one));
        x.lay();
        CHECK.due("a pair below", x.map(4, 1), 1 + 2 + 8);
        x.body(0, pen.left(pen.pair(1, one, nil)));
        x.lay();
        CHECK.due("a NEW that takes an INT and a pair", x.map(2, 1), 2);
        x.body(0, pen.left(pen.pair(7, one, one)));
        x.lay();
        CHECK.due("a NEW that takes two INTs", x.map(2, 1), 0);
        x.body(0, pen.empty(pen.pair(4, pen.nil(4), pen.nil(4))));
        x.lay();
        CHECK.due("a NEW that takes two pairs", x.map(2, 1), 3);
    }

    private static void emptyPile() {
        CHECK.sentence("the values on the pile", "none");
        Loom x = fresh();
        Pen pen = new Pen(x);
        int one = pen.number(1);
        int g = x.function(0, 0, 0, 0, 0);
        x.body(g, one);
        x.body(0, pen.call(g));
        x.lay();
        CHECK.due("a CALL that takes nothing, at the first place: locals", x.map(0, 0), 0);
        CHECK.due("a CALL that takes nothing, at the first place: values", x.map(0, 1), 0);
        x.body(0, pen.add(pen.call(g), pen.left(pen.local(0))));
        x.lay();
        CHECK.due("and a local matters", x.map(0, 0), 1);
        CHECK.due("with nothing on the pile", x.map(0, 1), 0);
        x.body(0, pen.then(pen.nil(1), pen.call(g)));
        x.lay();
        CHECK.due("a pair was there, and was dropped", x.map(2, 1), 0);
    }

    private static void pileInBranches() {
        CHECK.sentence("the values on the pile", "in the ways of an IF");
        Loom x = fresh();
        Pen pen = new Pen(x);
        int one = pen.number(1);
        int nil = pen.nil(1);
        int made = pen.pair(1, one, nil);
        x.body(0, pen.then(pen.putRight(nil, pen.choose(one, made, made)), one));
        x.lay();
        // NULL, PUSH, ZERO, PUSH, NULL, NEW, JUMP, PUSH, NULL, NEW
        CHECK.due("in b", x.map(5, 1), 5);
        CHECK.due("in c, b's value is not there", x.map(9, 1), 5);
        x.body(0, pen.left(pen.pair(1, pen.choose(one, one, one), pen.choose(one, nil, nil))));
        x.lay();
        // PUSH, ZERO, PUSH, JUMP, PUSH, PUSH, ZERO, NULL, JUMP, NULL, NEW
        CHECK.due("behind two IFs there are two values", x.map(10, 1), 2);
        x.body(0, pen.left(pen.pair(1, one, pen.let(5, nil, pen.then(pen.local(5), pen.local(5))))));
        x.lay();
        // PUSH, NULL, STORE, LOAD, DROP, LOAD, NEW
        CHECK.due("behind a STORE and a DROP", x.map(6, 1), 2);
    }

    private static void typesAsAtLay() {
        CHECK.sentence("2: what is laid down stays as it is", "maps");
        Loom x = new Loom();
        Pen pen = new Pen(x);
        x.type(1, 0, 1);
        x.function(0, 0, 0, 0, 0);
        int one = pen.number(1);
        int nil = pen.nil(1);
        int right = pen.right(nil);
        int body = pen.let(2, right, pen.then(pen.pair(1, one, right), pen.empty(pen.local(2))));
        x.body(0, body);
        // NULL, RIGHT, STORE, PUSH, NULL, RIGHT, NEW, DROP, LOAD, EMPTY, RET
        CHECK.due("lay()", x.lay(), 11);
        CHECK.due("the local", x.map(6, 0), 4);
        CHECK.due("the values", x.map(6, 1), 2);
        x.type(1, 1, 0);
        CHECK.due("types change: the local", x.map(6, 0), 4);
        CHECK.due("types change: the values", x.map(6, 1), 2);
        CHECK.due("laid down anew it is ill", x.lay(), RootLoom.ILL);
        x.type(1, 0, 1);
        CHECK.due("and well typed again", x.lay(), 11);
        CHECK.due("with the same map", x.map(6, 1), 2);
    }
}
