/** Promises 1 to 5: a new object, type, function, node, body. */
public final class WritingTest {
    private static final Check CHECK = new Check("WritingTest");

    public static void main(String[] args) {
        newObject();
        typeAnswers();
        typeTakesEffect();
        functionAnswers();
        functionParameters();
        nodeNumbers();
        nodeParts();
        nodeLimit();
        bodyAnswers();
        bodyLeavesWhatIsLaid();
        CHECK.end();
    }

    private static void newObject() {
        Loom x = new Loom();
        CHECK.due("1: body of no function", x.body(0, -1), false);
        CHECK.due("1: no node to be a part", x.node(16, 0, 0, 0), -1);
        CHECK.due("1: nothing is laid down", x.laid(0), -1);
        CHECK.due("1: no entry", x.entry(0), -1);
        CHECK.due("1: no map", x.map(0, 0), -1);
        CHECK.due("1: no latest run", x.latest(0), -1);
        CHECK.due("1: nothing put out", x.out(0), 0);
        CHECK.due("1: no result", x.tell(0, 0), -1);
        CHECK.due("1: no value", x.value(0, 0), 0);
        CHECK.due("1: no run", x.run(0, 0, 0, 0), -1);
        CHECK.due("1: first function", x.function(0, 0, 0, 0, 0), 0);
        CHECK.due("1: first node", x.node(0, 0, 0, 0), 0);
        firstHeap();
        otherObject();
    }

    /** 60 words are 20 pairs: a list of 20 is made, one of 21 is not; FORCE 0 collects nothing. */
    private static void firstHeap() {
        Loom x = new Loom();
        Pen pen = new Pen(x);
        x.type(1, 0, 1);
        x.function(1, 0, 0, 0, 0);
        x.body(0, pen.list(1, 2, 3, 4, 5, 6, 7, 8, 9, 10, 11, 12, 13, 14));
        CHECK.due("1: list of 14", x.lay(), 30);
        int list = pen.nil(1);
        int seven = pen.number(7);
        for (int k = 0; k < 11; k++) {
            list = pen.pair(1, seven, list);
        }
        int tail = x.node(2, 0, 0, 0);
        for (int k = 0; k < 9; k++) {
            tail = pen.pair(1, seven, tail);
        }
        x.function(1, 1, 1, 0, 0);
        x.body(1, tail);
        x.function(1, 0, 0, 0, 0);
        x.body(2, pen.call(1, list));
        x.function(1, 0, 0, 0, 0);
        x.body(3, pen.pair(1, seven, pen.call(1, list)));
        x.lay();
        CHECK.due("1: 20 pairs fit", x.run(2, 0, 0, 0), 1);
        CHECK.due("1: 60 words", x.latest(3), 60);
        CHECK.due("1: FORCE is 0", x.latest(2), 0);
        CHECK.due("1: 21 pairs do not fit", x.run(3, 0, 0, 0), 3);
        CHECK.due("1: 60 words stay", x.latest(4), 60);
    }

    private static void otherObject() {
        Loom x = new Loom();
        x.function(0, 0, 0, 0, 0);
        x.body(0, x.node(0, 3, 0, 0));
        x.lay();
        x.run(0, 0, 0, 0);
        Loom y = new Loom();
        CHECK.due("1: another object knows nothing of it", y.laid(0), -1);
        CHECK.due("1: nor of its run", y.latest(0), -1);
        CHECK.due("1: which still stands", x.value(0, 0), 3);
    }

    private static void typeAnswers() {
        Loom x = new Loom();
        for (int t = -2; t <= 9; t++) {
            CHECK.due("2: type(" + t + ", 0, 0)", x.type(t, 0, 0), t >= 1 && t <= 7);
            CHECK.due("2: type(1, " + t + ", 0)", x.type(1, t, 0), t >= 0 && t <= 7);
            CHECK.due("2: type(7, 0, " + t + ")", x.type(7, 0, t), t >= 0 && t <= 7);
        }
        CHECK.due("2: type(MIN, 0, 0)", x.type(Integer.MIN_VALUE, 0, 0), false);
        CHECK.due("2: type(1, MAX, 0)", x.type(1, Integer.MAX_VALUE, 0), false);
    }

    private static void typeTakesEffect() {
        Loom x = new Loom();
        Pen pen = new Pen(x);
        x.function(3, 0, 0, 0, 0);
        int one = pen.number(1);
        int three = pen.pair(3, one, one);
        x.body(0, three);
        CHECK.due("2: both INT at first", x.lay(), 4);
        CHECK.due("2: LEFT is 3 now", x.type(3, 3, 0), true);
        CHECK.due("2: so an INT is wrong there", x.lay(), -3);
        CHECK.due("2: a type that can't be changes nothing", x.type(3, 0, 8), false);
        CHECK.due("2: still wrong", x.lay(), -3);
        x.body(0, pen.pair(3, pen.nil(3), one));
        CHECK.due("2: a 3 is right there", x.lay(), 4);
        CHECK.due("2: run", x.run(0, 0, 0, 0), 1);
        CHECK.due("2: types change", x.type(3, 0, 3), true);
        CHECK.due("2: what is laid down stays", x.tell(0, 1), 1);
        CHECK.due("2: to the right, too", x.tell(1, 1), 0);
        CHECK.due("2: and runs as before", x.run(0, 0, 0, 0), 1);
        CHECK.due("2: with the types of then", x.tell(0, 1), 1);
        CHECK.due("2: map of then", x.map(2, 1), 1);
        CHECK.due("2: laid down anew it is wrong", x.lay(), -3);
        otherNumberOtherType(new Loom());
    }

    /** Types of the same parts are not the same type. */
    private static void otherNumberOtherType(Loom x) {
        Pen pen = new Pen(x);
        x.function(1, 0, 0, 0, 0);
        x.body(0, pen.nil(2));
        CHECK.due("2: 2 is not 1", x.lay(), -3);
        x.body(0, pen.nil(1));
        CHECK.due("2: 1 is 1", x.lay(), 2);
    }

    private static void functionAnswers() {
        Loom x = new Loom();
        CHECK.due("3: result -1", x.function(-1, 0, 0, 0, 0), -1);
        CHECK.due("3: result 8", x.function(8, 0, 0, 0, 0), -1);
        CHECK.due("3: -1 parameters", x.function(0, -1, 0, 0, 0), -1);
        CHECK.due("3: 4 parameters", x.function(0, 4, 0, 0, 0), -1);
        CHECK.due("3: first 8", x.function(0, 1, 8, 0, 0), -1);
        CHECK.due("3: first -1 of 3", x.function(0, 3, -1, 0, 0), -1);
        CHECK.due("3: second 8", x.function(0, 2, 0, 8, 0), -1);
        CHECK.due("3: second -1", x.function(0, 3, 0, -1, 0), -1);
        CHECK.due("3: third 8", x.function(0, 3, 0, 0, 8), -1);
        CHECK.due("3: third -1", x.function(0, 3, 0, 0, -1), -1);
        CHECK.due("3: none of them made one", x.function(0, 0, 99, -99, 8), 0);
        CHECK.due("3: those it has not are any, 1", x.function(7, 1, 7, 8, -1), 1);
        CHECK.due("3: those it has not are any, 2", x.function(0, 2, 7, 7, 8), 2);
        CHECK.due("3: three", x.function(7, 3, 7, 7, 7), 3);
        CHECK.due("3: the fifth", x.function(0, 3, 0, 0, 0), 4);
        CHECK.due("3: the sixth", x.function(0, 0, 0, 0, 0), 5);
        CHECK.due("3: no seventh", x.function(0, 0, 0, 0, 0), -1);
        CHECK.due("3: there is no function 6", x.body(6, -1), false);
    }

    private static void functionParameters() {
        Loom x = new Loom();
        Pen pen = new Pen(x);
        x.function(0, 3, 0, 0, 0);
        x.body(0, pen.sub(pen.sub(pen.local(0), pen.local(1)), pen.local(2)));
        x.lay();
        CHECK.due("3: parameters are the first locals", x.run(0, 100, 20, 3), 1);
        CHECK.due("3: in their order", x.value(0, 0), 77);
        x.function(0, 2, 0, 0, 0);
        x.body(1, pen.local(2));
        CHECK.due("3: no third parameter, no local 2", x.lay(), -3);
        x.body(1, -1);
        x.function(0, 2, 0, 5, 0);
        x.body(2, pen.empty(pen.local(1)));
        CHECK.due("3: the second's type", x.lay(), 6 + 3);
    }

    private static void nodeNumbers() {
        Loom x = new Loom();
        x.function(0, 0, 0, 0, 0);
        CHECK.due("4: kind -1", x.node(-1, 0, 0, 0), -1);
        CHECK.due("4: kind 18", x.node(18, 0, 0, 0), -1);
        CHECK.due("4: NUMBER, other parts do not matter", x.node(0, Integer.MIN_VALUE, -7, 999), 0);
        CHECK.due("4: NIL", x.node(1, 7, -7, 999), 1);
        CHECK.due("4: LOCAL", x.node(2, 7, -7, 999), 2);
        CHECK.due("4: ADD", x.node(3, 0, 1, 999), 3);
        CHECK.due("4: SUB", x.node(4, 0, 1, 999), 4);
        CHECK.due("4: LESS", x.node(5, 0, 1, 999), 5);
        CHECK.due("4: PAIR", x.node(6, 1, 0, 1), 6);
        CHECK.due("4: LEFT", x.node(7, 0, -7, 999), 7);
        CHECK.due("4: RIGHT", x.node(8, 0, -7, 999), 8);
        CHECK.due("4: EMPTY", x.node(9, 0, -7, 999), 9);
        CHECK.due("4: IF", x.node(10, 0, 1, 2), 10);
        CHECK.due("4: LET", x.node(11, 7, 1, 2), 11);
        CHECK.due("4: CALL without ARG", x.node(12, 0, -1, 999), 12);
        CHECK.due("4: ARG, the last", x.node(13, 0, -1, 999), 13);
        CHECK.due("4: ARG, another behind it", x.node(13, 1, 13, 999), 14);
        CHECK.due("4: CALL with ARGs", x.node(12, 0, 14, 999), 15);
        CHECK.due("4: PUTLEFT", x.node(14, 0, 1, 999), 16);
        CHECK.due("4: PUTRIGHT", x.node(15, 0, 1, 999), 17);
        CHECK.due("4: OUT", x.node(16, 0, -7, 999), 18);
        CHECK.due("4: THEN", x.node(17, 0, 1, 999), 19);
    }

    private static void none(Loom x, int kind, int a, int b, int c) {
        CHECK.due("4: node(" + kind + ", " + a + ", " + b + ", " + c + ")", x.node(kind, a, b, c), -1);
    }

    private static void nodeParts() {
        Loom x = new Loom();
        x.function(0, 0, 0, 0, 0);
        x.node(0, 1, 0, 0);
        x.node(13, 0, -1, 0);
        // Node 0 is an expression, 1 an ARG, 2 is not there.
        int[] noExpression = {-1, 1, 2, Integer.MIN_VALUE, Integer.MAX_VALUE};
        for (int bad : noExpression) {
            for (int kind : new int[] {3, 4, 5, 14, 15, 17}) {
                none(x, kind, bad, 0, 0);
                none(x, kind, 0, bad, 0);
            }
            for (int kind : new int[] {7, 8, 9, 13, 16}) {
                none(x, kind, bad, -1, 0);
            }
            none(x, 6, 1, bad, 0);
            none(x, 6, 1, 0, bad);
            none(x, 10, bad, 0, 0);
            none(x, 10, 0, bad, 0);
            none(x, 10, 0, 0, bad);
            none(x, 11, 0, bad, 0);
            none(x, 11, 0, 0, bad);
        }
        for (int bad : new int[] {0, 2, -2, Integer.MIN_VALUE, Integer.MAX_VALUE}) {
            none(x, 12, 0, bad, 0);
            none(x, 13, 0, bad, 0);
        }
        for (int bad : new int[] {0, -1, 8, Integer.MIN_VALUE}) {
            none(x, 1, bad, 0, 0);
            none(x, 6, bad, 0, 0);
        }
        for (int bad : new int[] {-1, 8, Integer.MAX_VALUE}) {
            none(x, 2, bad, 0, 0);
            none(x, 11, bad, 0, 0);
        }
        for (int bad : new int[] {-1, 1, 6, Integer.MIN_VALUE}) {
            none(x, 12, bad, -1, 0);
        }
        CHECK.due("4: nothing happened", x.node(0, 0, 0, 0), 2);
        CHECK.due("4: local 0", x.node(2, 0, 0, 0), 3);
        CHECK.due("4: type 1", x.node(1, 1, 0, 0), 4);
        CHECK.due("4: a node is no part of itself", x.node(16, 5, 0, 0), -1);
        CHECK.due("4: a function that comes later", x.function(0, 0, 0, 0, 0), 1);
        CHECK.due("4: is there then", x.node(12, 1, -1, 0), 5);
    }

    private static void nodeLimit() {
        Loom x = new Loom();
        for (int k = 0; k < 150; k++) {
            CHECK.due("4: node " + k, x.node(0, k, 0, 0), k);
        }
        CHECK.due("4: no 151st", x.node(0, 0, 0, 0), -1);
        x.function(0, 0, 0, 0, 0);
        CHECK.due("4: the last is there", x.body(0, 149), true);
        CHECK.due("4: and no more", x.body(0, 150), false);
        x.lay();
        x.run(0, 0, 0, 0);
        CHECK.due("4: as it was written", x.value(0, 0), 149);
    }

    private static void bodyAnswers() {
        Loom x = new Loom();
        x.function(0, 0, 0, 0, 0);
        x.node(0, 5, 0, 0);
        x.node(13, 0, -1, 0);
        CHECK.due("5: an expression", x.body(0, 0), true);
        CHECK.due("5: an ARG is none", x.body(0, 1), false);
        CHECK.due("5: no such node", x.body(0, 2), false);
        CHECK.due("5: -2 is none", x.body(0, -2), false);
        CHECK.due("5: no function -1", x.body(-1, 0), false);
        CHECK.due("5: no function 1", x.body(1, 0), false);
        CHECK.due("5: no function 1, no body", x.body(1, -1), false);
        CHECK.due("5: those changed nothing", x.lay(), 2);
        CHECK.due("5: none", x.body(0, -1), true);
        CHECK.due("5: then nothing of it is laid down", x.lay(), 0);
    }

    private static void bodyLeavesWhatIsLaid() {
        Loom x = new Loom();
        x.function(0, 0, 0, 0, 0);
        x.node(0, 5, 0, 0);
        x.node(0, 6, 0, 0);
        x.body(0, 0);
        x.lay();
        x.run(0, 0, 0, 0);
        x.body(0, 1);
        CHECK.due("5: the latest run stays", x.value(0, 0), 5);
        CHECK.due("5: what is laid down stays", x.instruction(0, 1), 5);
        CHECK.due("5: and runs", x.run(0, 0, 0, 0), 1);
        CHECK.due("5: as it was", x.value(0, 0), 5);
        x.body(0, -1);
        CHECK.due("5: it had a BODY", x.entry(0), 0);
        CHECK.due("5: and runs still", x.run(0, 0, 0, 0), 1);
        x.body(0, 1);
        x.lay();
        x.run(0, 0, 0, 0);
        CHECK.due("5: laid down anew", x.value(0, 0), 6);
    }
}
