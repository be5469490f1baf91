/** A RootLoom that is called as often as the document allows: behind that, no answer means anything. */
final class Loom {
    private static final int MOST_CALLS = 512;

    private final RootLoom inner = new RootLoom();
    private int calls = 0;

    private RootLoom called() {
        if (calls == MOST_CALLS) {
            throw new IllegalStateException("the test calls one object more than 512 times");
        }
        calls++;
        return inner;
    }

    int callsLeft() {
        return MOST_CALLS - calls;
    }

    boolean type(int t, int left, int right) {
        return called().type(t, left, right);
    }

    int function(int result, int parameters, int first, int second, int third) {
        return called().function(result, parameters, first, second, third);
    }

    int node(int kind, int a, int b, int c) {
        return called().node(kind, a, b, c);
    }

    boolean body(int function, int node) {
        return called().body(function, node);
    }

    int lay() {
        return called().lay();
    }

    int laid(int what) {
        return called().laid(what);
    }

    int instruction(int i, int what) {
        return called().instruction(i, what);
    }

    int entry(int function) {
        return called().entry(function);
    }

    int map(int i, int which) {
        return called().map(i, which);
    }

    boolean heap(int words) {
        return called().heap(words);
    }

    boolean force(int n) {
        return called().force(n);
    }

    int run(int function, int first, int second, int third) {
        return called().run(function, first, second, third);
    }

    int latest(int what) {
        return called().latest(what);
    }

    int out(int i) {
        return called().out(i);
    }

    int tell(int path, int n) {
        return called().tell(path, n);
    }

    int value(int path, int n) {
        return called().value(path, n);
    }
}
