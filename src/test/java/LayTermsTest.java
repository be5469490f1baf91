/** 'Terms': WELL TYPED, LAYING DOWN, the pile, TOO LARGE and ILL. */
public final class LayTermsTest {
    private static final Check CHECK = new Check("LayTermsTest");

    public static void main(String[] args) {
        localsHaveALetAround();
        noLetOfOneAlreadyThere();
        callsOfFunctionsWithABody();
        asManyArgsAsParameters();
        argsOfTheirTypes();
        bodyOfTheResultsType();
        functionByFunction();
        pileOfEachKind();
        mostInstructions();
        mostInstructionsByEachKind();
        mostInstructionsOfSix();
        farMoreInstructions();
        mostValuesByEachKind();
        mostValuesWithinPiles();
        noPileOfSeveralFunctions();
        tooLargeElseIll();
        illOneOfSix();
        illNodesWithoutABody();
        CHECK.end();
    }

    private static Loom fresh() {
        Loom x = new Loom();
        x.type(1, 0, 1);
        x.type(2, 1, 0);
        return x;
    }

    /** A Loom with one function that answers an INT and takes an INT and a 1. */
    private static Loom withOne() {
        Loom x = fresh();
        x.function(0, 2, 0, 1, 0);
        return x;
    }

    private static void lays(String name, Loom x, int body, int want) {
        x.body(0, body);
        CHECK.due(name + ": lay()", x.lay(), want);
        CHECK.due(name + ": laid(0)", x.laid(0), want < 0 ? -1 : want);
        x.body(0, -1);
    }

    private static void ill(String name, Loom x, int body) {
        lays(name, x, body, RootLoom.ILL);
    }

    private static void localsHaveALetAround() {
        CHECK.sentence("WELL TYPED is a function if all is as told here: "
                + "each LOCAL is a parameter, or has a LET of it around it (in whose c it is)");
        Loom x = withOne();
        Pen pen = new Pen(x);
        int one = pen.number(1);
        int three = pen.local(3);
        lays("a parameter", x, pen.local(0), 2);
        ill("no parameter, no LET", x, pen.local(2));
        lays("in c", x, pen.let(3, one, three), 4);
        ill("in b", x, pen.let(3, three, one));
        lays("in c, around the LET of another", x, pen.let(3, one, pen.let(4, one, three)), 6);
        lays("in the b of another in c", x, pen.let(3, one, pen.let(4, three, one)), 6);
        ill("a LET of another", x, pen.let(4, one, three));
        ill("behind its LET", x, pen.add(pen.let(3, one, one), three));
        ill("before its LET", x, pen.add(three, pen.let(3, one, one)));
        ill("a LET in the a of an IF, read in its b", x, pen.choose(pen.let(3, one, three), three, one));
        ill("a LET in the b of an IF, read in its c", x, pen.choose(one, pen.let(3, one, three), three));
        ill("a LET in a THEN's a, read in its b", x, pen.then(pen.let(3, one, three), three));
        ill("a LET in the caller", x, pen.add(pen.let(3, one, pen.call(0, one, pen.nil(1))), three));
        int f = x.function(0, 0, 0, 0, 0);
        x.body(f, three);
        ill("a LET in another function", x, pen.let(3, one, pen.call(f)));
        x.body(f, pen.local(0));
        ill("a parameter of another function", x, pen.let(3, one, pen.call(f)));
    }

    private static void noLetOfOneAlreadyThere() {
        CHECK.sentence("no LET is of a local that is one already there");
        Loom x = withOne();
        Pen pen = new Pen(x);
        int one = pen.number(1);
        ill("of the first parameter", x, pen.let(0, one, one));
        ill("of the last parameter", x, pen.let(1, pen.nil(1), one));
        lays("of the one behind", x, pen.let(2, one, one), 4);
        int inner = pen.let(2, one, one);
        ill("in its c", x, pen.let(2, one, inner));
        lays("in its b", x, pen.let(2, inner, one), 6);
        ill("in its c, in the b of another", x, pen.let(2, one, pen.let(3, inner, one)));
        ill("in its c, in the c of another", x, pen.let(2, one, pen.let(3, one, inner)));
        ill("in its c, in an ARG", x, pen.let(2, one, pen.call(0, inner, pen.nil(1))));
        ill("in its c, in one way of an IF", x, pen.let(2, one, pen.choose(one, one, inner)));
        lays("beside one another", x, pen.add(inner, inner), 8);
        lays("in both ways of an IF", x, pen.choose(one, inner, inner), 10);
        lays("one behind the other", x, pen.then(inner, inner), 8);
        int f = x.function(0, 0, 0, 0, 0);
        x.body(f, inner);
        lays("around a CALL of a function that has one", x, pen.let(2, one, pen.call(f)), 8);
    }

    private static void callsOfFunctionsWithABody() {
        CHECK.sentence("each CALL is of a function with a BODY");
        Loom x = fresh();
        Pen pen = new Pen(x);
        for (int f = 0; f < 6; f++) {
            x.function(0, 0, 0, 0, 0);
        }
        int one = pen.number(1);
        for (int f = 1; f < 6; f++) {
            int call = pen.call(f);
            ill("no BODY", x, call);
            ill("no BODY, in a way that is not gone", x, pen.choose(one, one, call));
            x.body(f, one);
            lays("a BODY", x, call, 4);
            x.body(f, -1);
            ill("no BODY any more", x, call);
        }
        lays("itself", x, pen.call(0), 2);
        x.body(0, pen.call(5));
        x.body(5, pen.call(0));
        CHECK.due("one another", x.lay(), 4);
    }

    private static void asManyArgsAsParameters() {
        CHECK.sentence("and has as many ARGs as that has parameters");
        Loom x = fresh();
        Pen pen = new Pen(x);
        x.function(0, 0, 0, 0, 0);
        int one = pen.number(1);
        for (int many = 0; many <= 3; many++) {
            x.function(0, many, 0, 0, 0);
            x.body(many + 1, one);
        }
        for (int parameters = 0; parameters <= 3; parameters++) {
            for (int args = 0; args <= 5; args++) {
                int[] ones = new int[args];
                java.util.Arrays.fill(ones, one);
                lays(args + " ARGs for " + parameters, x, pen.call(parameters + 1, ones),
                        args == parameters ? 8 + args + 2 : RootLoom.ILL);
            }
        }
    }

    private static void argsOfTheirTypes() {
        CHECK.sentence("of their types");
        Loom x = fresh();
        Pen pen = new Pen(x);
        x.function(0, 0, 0, 0, 0);
        int f = x.function(0, 3, 0, 1, 2);
        int one = pen.number(1);
        int[] parts = {one, pen.nil(1), pen.nil(2)};
        x.body(f, one);
        for (int first = 0; first <= 2; first++) {
            for (int second = 0; second <= 2; second++) {
                for (int third = 0; third <= 2; third++) {
                    boolean good = first == 0 && second == 1 && third == 2;
                    lays("ARGs " + first + second + third, x,
                            pen.call(f, parts[first], parts[second], parts[third]), good ? 7 : RootLoom.ILL);
                }
            }
        }
    }

    private static void bodyOfTheResultsType() {
        CHECK.sentence("the body has the type of the result");
        for (int result = 0; result <= 7; result++) {
            Loom x = fresh();
            Pen pen = new Pen(x);
            x.function(result, 0, 0, 0, 0);
            lays("an INT for a " + result, x, pen.number(0), result == 0 ? 2 : RootLoom.ILL);
            for (int t = 1; t <= 7; t++) {
                lays("a " + t + " for a " + result, x, pen.nil(t), result == t ? 2 : RootLoom.ILL);
            }
        }
    }

    private static void functionByFunction() {
        CHECK.sentence("LAYING DOWN makes one row of instructions, "
                + "function by function: the BODY, then RET (nothing for one without)");
        Loom x = fresh();
        Pen pen = new Pen(x);
        int one = pen.number(1);
        for (int f = 0; f < 6; f++) {
            x.function(0, 0, 0, 0, 0);
        }
        for (int with = 0; with < 64; with += 7) {
            int due = 0;
            for (int f = 0; f < 6; f++) {
                x.body(f, (with >> f & 1) == 1 ? one : -1);
                due += (with >> f & 1) * 2;
            }
            CHECK.due("lay() of functions " + Integer.toBinaryString(with), x.lay(), due);
            int at = 0;
            for (int f = 0; f < 6; f++) {
                boolean has = (with >> f & 1) == 1;
                CHECK.due("entry(" + f + ")", x.entry(f), has ? at : -1);
                if (has) {
                    CHECK.due("its RET", x.instruction(at + 1, 0), 14);
                }
                at += has ? 2 : 0;
            }
        }
    }

    /** An INT that needs so many values. */
    private static int deep(Pen pen, int leaf, int values) {
        int made = leaf;
        for (int k = 1; k < values; k++) {
            made = pen.add(leaf, made);
        }
        return made;
    }

    /** What it takes is gone before it puts one: so the pile tells how many each kind takes. */
    private static void pileOfEachKind() {
        CHECK.sentence("An instruction may take ints from the PILE of its frame and put one there, as is usual");
        Loom x = withOne();
        Pen pen = new Pen(x);
        int one = pen.number(1);
        int nil = pen.nil(1);
        int list = pen.pair(1, one, nil);
        int[] twos = {pen.add(one, one), pen.sub(one, one), pen.less(one, one), pen.left(list), pen.empty(list),
            pen.putLeft(nil, one), pen.empty(pen.putRight(nil, nil)), pen.call(0, one, nil)};
        int[] ones = {one, pen.local(0), pen.empty(nil), pen.left(nil), pen.empty(pen.right(nil)), pen.out(one),
            pen.choose(one, one, one), pen.let(4, nil, one), pen.then(nil, one)};
        for (int made : twos) {
            mostValues("of two", x, made, 2);
            mostValues("of two, then two of two", x, pen.then(pen.add(made, made), made), 3);
        }
        for (int made : ones) {
            mostValues("of one", x, made, 1);
            mostValues("of one, twice", x, pen.add(made, made), 2);
        }
    }

    private static void mostValues(String name, Loom x, int body, int want) {
        x.body(0, body);
        x.lay();
        CHECK.due(name + ": laid(2)", x.laid(2), want);
        x.body(0, -1);
    }

    private static void mostInstructions() {
        CHECK.sentence("It is TOO LARGE if there are more than 400 instructions");
        Loom x = withOne();
        Pen pen = new Pen(x);
        int one = pen.number(1);
        lays("399", x, pen.then(one, pen.sum(one, 198)), 398);
        lays("399, with a PUT", x, pen.out(pen.then(one, pen.sum(one, 198))), 399);
        int full = pen.sum(one, 200);
        lays("400", x, full, 400);
        lays("401", x, pen.out(full), RootLoom.TOO_LARGE);
        lays("402", x, pen.add(full, one), RootLoom.TOO_LARGE);
        lays("400 again", x, full, 400);
    }

    /** Each kind at the top of a body that is filled up to 400 and to 401. */
    private static void mostInstructionsByEachKind() {
        CHECK.sentence("more than 400 instructions", "by each kind");
        for (int kind = 0; kind <= 17; kind++) {
            if (kind == 13) {
                continue;
            }
            Loom x = withOne();
            Pen pen = new Pen(x);
            int one = pen.number(1);
            int nil = pen.nil(1);
            int[] made = ofKind(pen, kind, one, nil);
            // THENs of OUTs fill it up: the DROP, and as many PUTs as are left.
            int left = 400 - 1 - made[1] - 1;
            int fill = left % 2 == 1 ? pen.sum(one, left / 2 + 1) : pen.out(pen.sum(one, left / 2));
            lays("kind " + kind + ", 400", x, pen.then(fill, made[0]), 400);
            lays("kind " + kind + ", 401", x, pen.then(pen.out(fill), made[0]), RootLoom.TOO_LARGE);
        }
    }

    /** An INT with a node of that kind in it, and how many instructions it makes. */
    private static int[] ofKind(Pen pen, int kind, int one, int nil) {
        switch (kind) {
            case 0: return new int[] {one, 1};
            case 1: return new int[] {pen.empty(nil), 2};
            case 2: return new int[] {pen.local(0), 1};
            case 3: return new int[] {pen.add(one, one), 3};
            case 4: return new int[] {pen.sub(one, one), 3};
            case 5: return new int[] {pen.less(one, one), 3};
            case 6: return new int[] {pen.left(pen.pair(1, one, nil)), 4};
            case 7: return new int[] {pen.left(nil), 2};
            case 8: return new int[] {pen.right(pen.nil(2)), 2};
            case 9: return new int[] {pen.empty(nil), 2};
            case 10: return new int[] {pen.choose(one, one, one), 5};
            case 11: return new int[] {pen.let(2, one, one), 3};
            case 12: return new int[] {pen.call(0, one, nil), 3};
            case 14: return new int[] {pen.putLeft(nil, one), 3};
            case 15: return new int[] {pen.putRight(pen.nil(2), one), 3};
            case 16: return new int[] {pen.out(one), 2};
            default: return new int[] {pen.then(one, one), 3};
        }
    }

    private static void mostInstructionsOfSix() {
        CHECK.sentence("more than 400 instructions", "of six functions");
        Loom x = fresh();
        Pen pen = new Pen(x);
        int one = pen.number(1);
        int part = pen.out(pen.sum(one, 33));
        for (int f = 0; f < 6; f++) {
            x.function(0, 0, 0, 0, 0);
            x.body(f, part);
        }
        // 67 each with the RET: 402.
        CHECK.due("402 of six", x.lay(), RootLoom.TOO_LARGE);
        x.body(2, pen.sum(one, 33));
        CHECK.due("401 of six", x.lay(), RootLoom.TOO_LARGE);
        x.body(4, pen.sum(one, 33));
        CHECK.due("400 of six", x.lay(), 400);
        CHECK.due("the last is a RET", x.instruction(399, 0), 14);
        CHECK.due("the last function runs", x.run(5, 0, 0, 0), 1);
        CHECK.due("to its end", x.value(0, 0), 33);
        x.body(2, part);
        CHECK.due("401 of six, again", x.lay(), RootLoom.TOO_LARGE);
        x.body(0, -1);
        CHECK.due("334 of five", x.lay(), 334);
    }

    private static void farMoreInstructions() {
        CHECK.sentence("more than 400 instructions", "more than an int can count");
        for (int kind : new int[] {3, 10, 17}) {
            Loom x = withOne();
            Pen pen = new Pen(x);
            int huge = pen.number(1);
            for (int k = 0; k < 100; k++) {
                huge = x.node(kind, huge, huge, huge);
                if (k == 31 || k == 32 || k == 63 || k == 64) {
                    lays("doubled " + (k + 1) + " times by kind " + kind, x, huge, RootLoom.TOO_LARGE);
                }
            }
            lays("doubled 100 times by kind " + kind, x, huge, RootLoom.TOO_LARGE);
            lays("a small one after it", x, pen.number(1), 2);
        }
    }

    /** Each way in which a value waits below another: 16 are taken, 17 are not. */
    private static void mostValuesByEachKind() {
        CHECK.sentence("or a pile may have more than 16 values");
        for (int way = 0; way < 8; way++) {
            Loom x = withOne();
            Pen pen = new Pen(x);
            int one = pen.number(1);
            int fifteen = deep(pen, one, 15);
            int sixteen = pen.add(one, fifteen);
            int sixteenIs = waiting(pen, way, fifteen);
            x.body(0, sixteenIs);
            CHECK.due("way " + way + ", 16 values", x.lay() > 0, true);
            CHECK.due("way " + way + ": laid(2)", x.laid(2), 16);
            lays("way " + way + ", 17 values", x, waiting(pen, way, sixteen), RootLoom.TOO_LARGE);
        }
    }

    private static int waiting(Pen pen, int way, int behind) {
        int one = pen.number(1);
        int nil = pen.nil(1);
        switch (way) {
            case 0: return pen.add(one, behind);
            case 1: return pen.sub(one, behind);
            case 2: return pen.less(one, behind);
            case 3: return pen.right(pen.pair(2, nil, behind));
            case 4: return pen.putLeft(nil, behind);
            case 5: return pen.putRight(pen.nil(2), behind);
            case 6: return pen.call(0, one, pen.then(behind, nil));
            default: return pen.add(one, pen.then(behind, one));
        }
    }

    /** Where nothing waits below, 16 values stay 16. */
    private static void mostValuesWithinPiles() {
        CHECK.sentence("a pile may have more than 16 values", "nothing waits below");
        Loom x = withOne();
        Pen pen = new Pen(x);
        int one = pen.number(1);
        int sixteen = deep(pen, one, 16);
        int nil = pen.nil(1);
        int[] bodies = {sixteen, pen.out(sixteen), pen.add(sixteen, one), pen.less(sixteen, one),
            pen.choose(sixteen, one, one), pen.choose(one, sixteen, one), pen.choose(one, one, sixteen),
            pen.let(2, sixteen, one), pen.let(2, one, sixteen), pen.then(sixteen, one), pen.then(one, sixteen),
            pen.left(pen.pair(1, sixteen, nil)), pen.call(0, sixteen, nil), pen.empty(pen.then(sixteen, nil))};
        for (int k = 0; k < bodies.length; k++) {
            x.body(0, bodies[k]);
            CHECK.due("16 values, " + k, x.lay() > 0, true);
            CHECK.due("laid(2), " + k, x.laid(2), 16);
            lays("17 values, " + k, x, pen.add(one, bodies[k]), RootLoom.TOO_LARGE);
        }
        lays("16 in both", x, pen.then(sixteen, sixteen), 31 + 1 + 31 + 1);
    }

    private static void noPileOfSeveralFunctions() {
        CHECK.sentence("the PILE of its frame");
        Loom x = fresh();
        Pen pen = new Pen(x);
        for (int f = 0; f < 3; f++) {
            x.function(0, 0, 0, 0, 0);
        }
        int one = pen.number(1);
        x.body(0, deep(pen, one, 16));
        x.body(1, deep(pen, pen.call(0), 9));
        x.body(2, pen.call(1));
        CHECK.due("each frame has its own pile", x.lay() > 0, true);
        CHECK.due("laid(2)", x.laid(2), 16);
        CHECK.due("run(2)", x.run(2, 0, 0, 0), 1);
        CHECK.due("value", x.value(0, 0), 16 * 9);
        CHECK.sentence("7: 2: the most values that a pile may have");
        x.body(0, one);
        x.lay();
        CHECK.due("the most of all functions is in the middle", x.laid(2), 9);
        x.body(1, one);
        x.lay();
        CHECK.due("one each", x.laid(2), 1);
    }

    private static void tooLargeElseIll() {
        CHECK.sentence("else ILL if one of the functions with a BODY is not WELL TYPED", "too large and ill");
        Loom x = withOne();
        Pen pen = new Pen(x);
        int one = pen.number(1);
        int illOne = pen.add(one, pen.nil(1));
        int full = pen.sum(one, 198);
        // 395, DROP, 3, RET: 400.
        lays("ill with 400", x, pen.then(full, illOne), RootLoom.ILL);
        lays("ill with 401", x, pen.then(pen.out(full), illOne), RootLoom.TOO_LARGE);
        lays("ill with 16 values", x, deep(pen, illOne, 15), RootLoom.ILL);
        lays("ill with 17 values", x, deep(pen, illOne, 16), RootLoom.TOO_LARGE);
        int[] ones = new int[16];
        java.util.Arrays.fill(ones, one);
        lays("16 ARGs are ill", x, pen.call(0, ones), RootLoom.ILL);
        lays("17 ARGs are too large", x, pen.call(0, java.util.Arrays.copyOf(ones, 17)), RootLoom.TOO_LARGE);
        int f = x.function(0, 0, 0, 0, 0);
        x.body(f, pen.out(pen.sum(one, 200)));
        lays("ill in the first, too large in the second", x, illOne, RootLoom.TOO_LARGE);
        lays("ill through the CALL of one that is too large", x, pen.call(f, one), RootLoom.TOO_LARGE);
        x.body(f, illOne);
        lays("too large in the first, ill in the second", x, pen.out(pen.sum(one, 200)), RootLoom.TOO_LARGE);
    }

    private static void illOneOfSix() {
        CHECK.sentence("ILL if one of the functions with a BODY is not WELL TYPED");
        for (int bad = 0; bad < 6; bad++) {
            Loom x = fresh();
            Pen pen = new Pen(x);
            int one = pen.number(1);
            for (int f = 0; f < 6; f++) {
                x.function(0, 0, 0, 0, 0);
                x.body(f, f == bad ? pen.nil(1) : one);
            }
            CHECK.due("function " + bad + " is ill: lay()", x.lay(), RootLoom.ILL);
            CHECK.due("nothing is laid down: laid(0)", x.laid(0), -1);
            for (int f = 0; f < 6; f++) {
                CHECK.due("nothing is laid down: entry(" + f + ")", x.entry(f), -1);
            }
            x.body(bad, -1);
            CHECK.due("without its BODY: lay()", x.lay(), 10);
        }
    }

    private static void illNodesWithoutABody() {
        CHECK.sentence("one of the functions with a BODY");
        Loom x = withOne();
        Pen pen = new Pen(x);
        int one = pen.number(1);
        pen.add(one, pen.nil(1));
        pen.local(5);
        pen.call(0);
        lays("ill nodes that no BODY has", x, one, 2);
        int huge = one;
        for (int k = 0; k < 20; k++) {
            huge = pen.add(huge, huge);
        }
        lays("large nodes that no BODY has", x, one, 2);
        CHECK.due("no BODY at all", x.lay(), 0);
    }
}
