import java.util.ArrayList;
import java.util.List;
import java.util.function.ToIntFunction;

/**
 * Asks more than one object may be asked: when its calls are used up, a new one is brought to the
 * same state by the calls that still count. Refused calls, older runs and what was laid down before
 * are not told to it, for the document says that nothing of them is left.
 */
final class Relay {
    private enum Kind { WRITE, LAY, HEAP, FORCE, RUN }

    private static final class Told {
        final Kind kind;
        final ToIntFunction<Loom> call;

        Told(Kind kind, ToIntFunction<Loom> call) {
            this.kind = kind;
            this.call = call;
        }
    }

    private final List<Told> told = new ArrayList<>();
    private Loom loom = new Loom();

    boolean type(int t, int left, int right) {
        return tellUnless(0, Kind.WRITE, x -> x.type(t, left, right) ? 1 : 0) == 1;
    }

    int function(int result, int parameters, int first, int second, int third) {
        return tellUnless(-1, Kind.WRITE, x -> x.function(result, parameters, first, second, third));
    }

    int node(int kind, int a, int b, int c) {
        return tellUnless(-1, Kind.WRITE, x -> x.node(kind, a, b, c));
    }

    boolean body(int function, int node) {
        return tellUnless(0, Kind.WRITE, x -> x.body(function, node) ? 1 : 0) == 1;
    }

    int lay() {
        told.removeIf(one -> one.kind == Kind.LAY || one.kind == Kind.RUN);
        // What lay answers when it fails still counts: nothing is laid down then.
        return tellUnless(Integer.MIN_VALUE, Kind.LAY, Loom::lay);
    }

    boolean heap(int words) {
        return tellUnless(0, Kind.HEAP, x -> x.heap(words) ? 1 : 0) == 1;
    }

    boolean force(int n) {
        return tellUnless(0, Kind.FORCE, x -> x.force(n) ? 1 : 0) == 1;
    }

    int run(int function, int first, int second, int third) {
        int answer = tellUnless(-1, Kind.RUN, x -> x.run(function, first, second, third));
        if (answer != -1) {
            keepLast(Kind.RUN);
            keepLast(Kind.HEAP);
            keepLast(Kind.FORCE);
        }
        return answer;
    }

    int laid(int what) {
        return ready().laid(what);
    }

    int instruction(int i, int what) {
        return ready().instruction(i, what);
    }

    int entry(int function) {
        return ready().entry(function);
    }

    int map(int i, int which) {
        return ready().map(i, which);
    }

    int latest(int what) {
        return ready().latest(what);
    }

    int out(int i) {
        return ready().out(i);
    }

    int tell(int path, int n) {
        return ready().tell(path, n);
    }

    int value(int path, int n) {
        return ready().value(path, n);
    }

    private Loom ready() {
        if (loom.callsLeft() == 0) {
            loom = new Loom();
            for (Told one : told) {
                one.call.applyAsInt(loom);
            }
        }
        return loom;
    }

    private int tellUnless(int refused, Kind kind, ToIntFunction<Loom> call) {
        int answer = call.applyAsInt(ready());
        if (answer != refused) {
            told.add(new Told(kind, call));
        }
        return answer;
    }

    private void keepLast(Kind kind) {
        boolean found = false;
        for (int k = told.size() - 1; k >= 0; k--) {
            if (told.get(k).kind == kind) {
                if (found) {
                    told.remove(k);
                }
                found = true;
            }
        }
    }
}
