/** Writes nodes by name; a node that can't be made is a fault of the test itself. */
final class Pen {
    final Loom loom;

    Pen(Loom loom) {
        this.loom = loom;
    }

    private int made(int node) {
        if (node < 0) {
            throw new IllegalStateException("the test wrote a node that can't be");
        }
        return node;
    }

    int number(int a) { return made(loom.node(0, a, 0, 0)); }

    int nil(int type) { return made(loom.node(1, type, 0, 0)); }

    int local(int a) { return made(loom.node(2, a, 0, 0)); }

    int add(int a, int b) { return made(loom.node(3, a, b, 0)); }

    int sub(int a, int b) { return made(loom.node(4, a, b, 0)); }

    int less(int a, int b) { return made(loom.node(5, a, b, 0)); }

    int pair(int type, int b, int c) { return made(loom.node(6, type, b, c)); }

    int left(int a) { return made(loom.node(7, a, 0, 0)); }

    int right(int a) { return made(loom.node(8, a, 0, 0)); }

    int empty(int a) { return made(loom.node(9, a, 0, 0)); }

    int choose(int a, int b, int c) { return made(loom.node(10, a, b, c)); }

    int let(int local, int b, int c) { return made(loom.node(11, local, b, c)); }

    int call(int function, int... expressions) {
        int arg = -1;
        for (int k = expressions.length - 1; k >= 0; k--) {
            arg = made(loom.node(13, expressions[k], arg, 0));
        }
        return made(loom.node(12, function, arg, 0));
    }

    int putLeft(int a, int b) { return made(loom.node(14, a, b, 0)); }

    int putRight(int a, int b) { return made(loom.node(15, a, b, 0)); }

    int out(int a) { return made(loom.node(16, a, 0, 0)); }

    int then(int a, int b) { return made(loom.node(17, a, b, 0)); }

    /** So many of an INT expression added up, balanced, with shared nodes. */
    int sum(int leaf, int leaves) {
        if (leaves == 1) {
            return leaf;
        }
        int half = sum(leaf, leaves / 2);
        int both = add(half, half);
        return leaves % 2 == 0 ? both : add(both, leaf);
    }

    /** A list of type 1 (INT left, itself right) of the numbers. */
    int list(int... numbers) {
        int made = nil(1);
        for (int k = numbers.length - 1; k >= 0; k--) {
            made = pair(1, number(numbers[k]), made);
        }
        return made;
    }
}
