/**
 * A small language with pairs, laid down as instructions of a machine whose heap is collected by
 * maps. What each call answers is told by the document; the comments here tell why it is done so.
 */
public final class RootLoom {
    public static final int NONE = -1;
    public static final int TOO_LARGE = -2;
    public static final int ILL = -3;

    private static final int INT = 0;
    private static final int NIL = 0;

    private static final int TYPES = 8;
    private static final int FUNCTIONS = 6;
    private static final int PARAMETERS = 3;
    private static final int LOCALS = 8;
    private static final int NODES = 150;
    private static final int INSTRUCTIONS = 400;
    private static final int VALUES = 16;
    private static final int FRAMES = 24;
    private static final int STEPS = 6000;
    private static final int PRINTED = 64;
    private static final int PATH_STEPS = 20;
    private static final int PAIR_WORDS = 3;
    private static final int FIRST_WORDS = 60;
    private static final int MOST_WORDS = 600;
    private static final int PAIRS = MOST_WORDS / PAIR_WORDS;

    private static final int NODE_NUMBER = 0;
    private static final int NODE_NIL = 1;
    private static final int NODE_LOCAL = 2;
    private static final int NODE_ADD = 3;
    private static final int NODE_SUB = 4;
    private static final int NODE_LESS = 5;
    private static final int NODE_PAIR = 6;
    private static final int NODE_LEFT = 7;
    private static final int NODE_RIGHT = 8;
    private static final int NODE_EMPTY = 9;
    private static final int NODE_IF = 10;
    private static final int NODE_LET = 11;
    private static final int NODE_CALL = 12;
    private static final int NODE_ARG = 13;
    private static final int NODE_PUTLEFT = 14;
    private static final int NODE_PUTRIGHT = 15;
    private static final int NODE_OUT = 16;
    private static final int NODE_THEN = 17;
    private static final int KINDS = 18;

    private static final int DO_PUSH = 0;
    private static final int DO_NULL = 1;
    private static final int DO_LOAD = 2;
    private static final int DO_ADD = 3;
    private static final int DO_SUB = 4;
    private static final int DO_LESS = 5;
    private static final int DO_NEW = 6;
    private static final int DO_LEFT = 7;
    private static final int DO_RIGHT = 8;
    private static final int DO_EMPTY = 9;
    private static final int DO_ZERO = 10;
    private static final int DO_JUMP = 11;
    private static final int DO_STORE = 12;
    private static final int DO_CALL = 13;
    private static final int DO_RET = 14;
    private static final int DO_PUTLEFT = 15;
    private static final int DO_PUTRIGHT = 16;
    private static final int DO_PUT = 17;
    private static final int DO_DROP = 18;

    private static final int RUNNING = 0;
    private static final int OVER_BY_RESULT = 1;
    private static final int OVER_BY_NIL = 2;
    private static final int OVER_BY_HEAP = 3;
    private static final int OVER_BY_FRAMES = 4;
    private static final int OVER_BY_STEPS = 5;

    private static final int CAME_TO_INT = 0;
    private static final int CAME_TO_NIL = 1;
    private static final int CAME_TO_PAIR = 2;

    /** What a part of a node must be: the letters of the table PARTS. */
    private static final int ANY = 0;
    private static final int TYPE = 1;
    private static final int SLOT = 2;
    private static final int CALLED = 3;
    private static final int EXPR = 4;
    private static final int ARGS = 5;

    private static final int PARTS_EACH = 3;
    /** A row for each kind of node, by its number. */
    private static final int[] PARTS = {
        ANY, ANY, ANY,
        TYPE, ANY, ANY,
        SLOT, ANY, ANY,
        EXPR, EXPR, ANY,
        EXPR, EXPR, ANY,
        EXPR, EXPR, ANY,
        TYPE, EXPR, EXPR,
        EXPR, ANY, ANY,
        EXPR, ANY, ANY,
        EXPR, ANY, ANY,
        EXPR, EXPR, EXPR,
        SLOT, EXPR, EXPR,
        CALLED, ARGS, ANY,
        EXPR, ARGS, ANY,
        EXPR, EXPR, ANY,
        EXPR, EXPR, ANY,
        EXPR, ANY, ANY,
        EXPR, EXPR, ANY,
    };

    private final Source source;
    private final Code code;
    private final Weaver weaver;
    private final Machine machine;

    public RootLoom() {
        source = new Source();
        code = new Code();
        weaver = new Weaver(source, code);
        machine = new Machine(source, code);
    }

    public boolean type(int t, int left, int right) {
        return source.setType(t, left, right);
    }

    public int function(int result, int parameters, int first, int second, int third) {
        return source.addFunction(result, parameters, first, second, third);
    }

    public int node(int kind, int a, int b, int c) {
        return source.addNode(kind, a, b, c);
    }

    public boolean body(int function, int node) {
        return source.setBody(function, node);
    }

    public int lay() {
        machine.forget();
        return weaver.weave();
    }

    public int laid(int what) {
        if (!code.stands) {
            return NONE;
        }
        switch (what) {
            case 0: return code.count;
            case 1: return code.mapped;
            case 2: return code.mostValues;
            default: return NONE;
        }
    }

    public int instruction(int i, int what) throws IndexOutOfBoundsException, IllegalArgumentException {
        if (!code.has(i)) {
            throw new IndexOutOfBoundsException();
        }
        if (what != 0 && what != 1) {
            throw new IllegalArgumentException();
        }
        return what == 0 ? code.operation[i] : code.operand[i];
    }

    public int entry(int function) {
        return code.startOf(function);
    }

    public int map(int i, int which) {
        if (!code.has(i) || !code.isMapped(i)) {
            return NONE;
        }
        switch (which) {
            case 0: return code.localMap[i];
            case 1: return code.pileMap[i];
            default: return NONE;
        }
    }

    public boolean heap(int words) {
        if (words < PAIR_WORDS || words > MOST_WORDS) {
            return false;
        }
        machine.heapWords = words;
        return true;
    }

    public boolean force(int n) {
        if (n < 0) {
            return false;
        }
        machine.forceEvery = n;
        return true;
    }

    public int run(int function, int first, int second, int third) {
        if (code.startOf(function) == NONE || !source.takesOnlyInts(function)) {
            return NONE;
        }
        return machine.perform(function, first, second, third);
    }

    public int latest(int what) {
        return machine.report(what);
    }

    public int out(int i) {
        return machine.printedAt(i);
    }

    public int tell(int path, int n) {
        return machine.walk(path, n);
    }

    public int value(int path, int n) {
        return machine.walk(path, n) == CAME_TO_INT ? machine.reached : 0;
    }

    /** What the caller has written: types, functions and nodes. */
    private static final class Source {
        final int[] leftOf = new int[TYPES];
        final int[] rightOf = new int[TYPES];

        final int[] resultOf = new int[FUNCTIONS];
        final int[] parametersOf = new int[FUNCTIONS];
        final int[] parameterTypes = new int[FUNCTIONS * PARAMETERS];
        final int[] bodyOf = new int[FUNCTIONS];
        int functions = 0;

        final int[] kindOf = new int[NODES];
        final int[] parts = new int[NODES * PARTS_EACH];
        final int[] sizeOf = new int[NODES];
        final int[] valuesOf = new int[NODES];
        int nodes = 0;

        boolean setType(int t, int left, int right) {
            if (!isPairType(t) || !isType(left) || !isType(right)) {
                return false;
            }
            leftOf[t] = left;
            rightOf[t] = right;
            return true;
        }

        int addFunction(int result, int parameters, int first, int second, int third) {
            if (functions >= FUNCTIONS || !isType(result) || parameters < 0 || parameters > PARAMETERS) {
                return NONE;
            }
            if (parameters > 0 && !isType(first)
                    || parameters > 1 && !isType(second)
                    || parameters > 2 && !isType(third)) {
                return NONE;
            }
            int f = functions;
            resultOf[f] = result;
            parametersOf[f] = parameters;
            parameterTypes[f * PARAMETERS] = first;
            parameterTypes[f * PARAMETERS + 1] = second;
            parameterTypes[f * PARAMETERS + 2] = third;
            bodyOf[f] = NONE;
            functions++;
            return f;
        }

        int addNode(int kind, int a, int b, int c) {
            if (kind < 0 || kind >= KINDS || nodes >= NODES) {
                return NONE;
            }
            int row = kind * PARTS_EACH;
            if (!fits(PARTS[row], a) || !fits(PARTS[row + 1], b) || !fits(PARTS[row + 2], c)) {
                return NONE;
            }
            int n = nodes;
            kindOf[n] = kind;
            parts[n * PARTS_EACH] = a;
            parts[n * PARTS_EACH + 1] = b;
            parts[n * PARTS_EACH + 2] = c;
            measure(n);
            nodes++;
            return n;
        }

        boolean setBody(int f, int n) {
            if (!isFunction(f) || n != NONE && !isExpression(n)) {
                return false;
            }
            bodyOf[f] = n;
            return true;
        }

        boolean takesOnlyInts(int f) {
            for (int k = 0; k < parametersOf[f]; k++) {
                if (parameterType(f, k) != INT) {
                    return false;
                }
            }
            return true;
        }

        int parameterType(int f, int k) {
            return parameterTypes[f * PARAMETERS + k];
        }

        int partOf(int n, int k) {
            return parts[n * PARTS_EACH + k];
        }

        /** The k-th part where that is a node, else NONE. */
        int childOf(int n, int k) {
            int must = PARTS[kindOf[n] * PARTS_EACH + k];
            return must == EXPR || must == ARGS ? partOf(n, k) : NONE;
        }

        /** How many ARGs a CALL has: the chain ends, for an ARG leads to older nodes only. */
        int argumentsOf(int call) {
            int found = 0;
            int arg = partOf(call, 1);
            while (arg != NONE && found < NODES) {
                found++;
                arg = partOf(arg, 1);
            }
            return found;
        }

        private boolean fits(int must, int part) {
            switch (must) {
                case TYPE: return isPairType(part);
                case SLOT: return part >= 0 && part < LOCALS;
                case CALLED: return isFunction(part);
                case EXPR: return isExpression(part);
                case ARGS: return part == NONE || isNode(part) && kindOf[part] == NODE_ARG;
                default: return true;
            }
        }

        /**
         * Nodes may share parts, so a body may be far larger than its nodes are many: that is
         * known from sums over the parts, without going through it.
         */
        private void measure(int n) {
            int size = ownInstructions(kindOf[n]);
            int values = 1;
            for (int k = 0; k < PARTS_EACH; k++) {
                int child = childOf(n, k);
                if (child != NONE) {
                    size += sizeOf[child];
                    values = Math.max(values, waitingAt(kindOf[n], k) + valuesOf[child]);
                }
            }
            // One above the limit tells all that is asked, and sums of it stay small.
            sizeOf[n] = Math.min(size, INSTRUCTIONS + 1);
            valuesOf[n] = values;
        }

        private static int ownInstructions(int kind) {
            switch (kind) {
                case NODE_ARG: return 0;
                case NODE_IF: return 2;
                default: return 1;
            }
        }

        /** How many values of a node's own lie on the pile while its k-th part is made. */
        private static int waitingAt(int kind, int k) {
            switch (kind) {
                case NODE_ADD:
                case NODE_SUB:
                case NODE_LESS:
                case NODE_PUTLEFT:
                case NODE_PUTRIGHT:
                case NODE_ARG:
                    return k == 1 ? 1 : 0;
                case NODE_PAIR:
                    return k == 2 ? 1 : 0;
                default:
                    return 0;
            }
        }

        private static boolean isType(int t) {
            return t >= 0 && t < TYPES;
        }

        private static boolean isPairType(int t) {
            return t > INT && t < TYPES;
        }

        private boolean isFunction(int f) {
            return f >= 0 && f < functions;
        }

        private boolean isNode(int n) {
            return n >= 0 && n < nodes;
        }

        private boolean isExpression(int n) {
            return isNode(n) && kindOf[n] != NODE_ARG;
        }
    }

    /** What is laid down, with the types as they were then. */
    private static final class Code {
        boolean stands = false;
        int count = 0;
        int mapped = 0;
        int mostValues = 0;
        final int[] operation = new int[INSTRUCTIONS];
        final int[] operand = new int[INSTRUCTIONS];
        final int[] localMap = new int[INSTRUCTIONS];
        final int[] pileMap = new int[INSTRUCTIONS];
        final int[] starts = new int[FUNCTIONS];
        final int[] leftOf = new int[TYPES];
        final int[] rightOf = new int[TYPES];

        void clear() {
            stands = false;
            count = 0;
            mapped = 0;
            mostValues = 0;
            for (int f = 0; f < FUNCTIONS; f++) {
                starts[f] = NONE;
            }
        }

        int add(int what, int a) {
            int at = count;
            operation[at] = what;
            operand[at] = a;
            count++;
            return at;
        }

        void keepTypes(Source source) {
            for (int t = 0; t < TYPES; t++) {
                leftOf[t] = source.leftOf[t];
                rightOf[t] = source.rightOf[t];
            }
        }

        boolean has(int i) {
            return stands && i >= 0 && i < count;
        }

        boolean isMapped(int i) {
            return operation[i] == DO_NEW || operation[i] == DO_CALL;
        }

        int startOf(int f) {
            return stands && f >= 0 && f < FUNCTIONS ? starts[f] : NONE;
        }
    }

    /**
     * Lays bodies down and finds their types in one walk: what the pile will hold is known as
     * types at each instruction, and that is just what the maps need.
     */
    private static final class Weaver {
        /** Below 2 * INSTRUCTIONS nodes are met, each in four turns. */
        private static final int MOST_TURNS = 10000;

        private final Source source;
        private final Code code;

        /** The nodes that are begun, from the body down to the one at hand, and their next parts. */
        private final int[] openNodes = new int[NODES];
        private final int[] openParts = new int[NODES];
        /** For an open IF: where its ZERO or JUMP lies, and the type of its b. */
        private final int[] openJumps = new int[NODES];
        private final int[] openTypes = new int[NODES];
        private int open = 0;

        private final int[] pileTypes = new int[VALUES];
        private int height = 0;
        private final int[] localTypes = new int[LOCALS];
        private boolean wellTyped = true;

        /** Of a LOAD: the bit of its local if that is of a pair type there, else 0. */
        private final int[] pairLoads = new int[INSTRUCTIONS];
        /** Has a place more, so that the one behind the last may be asked. */
        private final int[] mattersBefore = new int[INSTRUCTIONS + 1];

        Weaver(Source source, Code code) {
            this.source = source;
            this.code = code;
        }

        int weave() {
            code.clear();
            int size = 0;
            int values = 0;
            for (int f = 0; f < source.functions; f++) {
                int body = source.bodyOf[f];
                if (body != NONE) {
                    size += source.sizeOf[body] + 1;
                    values = Math.max(values, source.valuesOf[body]);
                }
            }
            if (size > INSTRUCTIONS || values > VALUES) {
                return TOO_LARGE;
            }
            for (int f = 0; f < source.functions; f++) {
                if (source.bodyOf[f] != NONE && !weaveFunction(f)) {
                    return ILL;
                }
            }
            findWhatMatters();
            code.keepTypes(source);
            code.mostValues = values;
            code.stands = true;
            return code.count;
        }

        private boolean weaveFunction(int f) {
            code.starts[f] = code.count;
            for (int local = 0; local < LOCALS; local++) {
                boolean given = local < source.parametersOf[f];
                localTypes[local] = given ? source.parameterType(f, local) : NONE;
            }
            height = 0;
            open = 0;
            wellTyped = true;
            begin(source.bodyOf[f]);
            // No recursion: a body may be 150 nodes deep.
            for (int turn = 0; turn < MOST_TURNS && open > 0 && wellTyped; turn++) {
                int at = open - 1;
                if (openParts[at] == PARTS_EACH) {
                    open--;
                    finish(openNodes[at], at);
                } else {
                    goDown(at);
                }
            }
            if (!wellTyped || takeType() != source.resultOf[f]) {
                return false;
            }
            code.add(DO_RET, 0);
            return true;
        }

        /** A part is older than its node, so never more than all nodes are open. */
        private void begin(int n) {
            openNodes[open] = n;
            openParts[open] = 0;
            open++;
        }

        private void goDown(int at) {
            int n = openNodes[at];
            int k = openParts[at];
            openParts[at] = k + 1;
            int child = source.childOf(n, k);
            if (child != NONE) {
                prepare(n, k, at);
                begin(child);
            }
        }

        /** What a node lays down before its k-th part. */
        private void prepare(int n, int k, int at) {
            int kind = source.kindOf[n];
            if (kind == NODE_IF && k == 1) {
                takeInt();
                openJumps[at] = code.add(DO_ZERO, 0);
            } else if (kind == NODE_IF && k == 2) {
                openTypes[at] = takeType();
                int jump = code.add(DO_JUMP, 0);
                code.operand[openJumps[at]] = code.count;
                openJumps[at] = jump;
            } else if (kind == NODE_LET && k == 2) {
                weaveStore(source.partOf(n, 0));
            } else if (kind == NODE_THEN && k == 1) {
                takeType();
                code.add(DO_DROP, 0);
            }
        }

        /** What a node lays down behind its parts. */
        private void finish(int n, int at) {
            int a = source.partOf(n, 0);
            switch (source.kindOf[n]) {
                case NODE_NUMBER: code.add(DO_PUSH, a); putType(INT); break;
                case NODE_NIL: code.add(DO_NULL, 0); putType(a); break;
                case NODE_LOCAL: weaveLoad(a); break;
                case NODE_ADD: weaveSum(DO_ADD); break;
                case NODE_SUB: weaveSum(DO_SUB); break;
                case NODE_LESS: weaveSum(DO_LESS); break;
                case NODE_PAIR: weaveNew(a); break;
                case NODE_LEFT: code.add(DO_LEFT, 0); putType(source.leftOf[takePairType()]); break;
                case NODE_RIGHT: code.add(DO_RIGHT, 0); putType(source.rightOf[takePairType()]); break;
                case NODE_EMPTY: code.add(DO_EMPTY, 0); takePairType(); putType(INT); break;
                case NODE_IF: joinWays(at); break;
                case NODE_LET: localTypes[a] = NONE; break;
                case NODE_CALL: weaveCall(a, source.argumentsOf(n)); break;
                case NODE_PUTLEFT: weavePut(DO_PUTLEFT, source.leftOf); break;
                case NODE_PUTRIGHT: weavePut(DO_PUTRIGHT, source.rightOf); break;
                case NODE_OUT: code.add(DO_PUT, 0); takeInt(); putType(INT); break;
                default: break;
            }
        }

        private void weaveLoad(int local) {
            int t = localTypes[local];
            must(t != NONE);
            int at = code.add(DO_LOAD, local);
            pairLoads[at] = t > INT ? 1 << local : 0;
            putType(t);
        }

        private void weaveStore(int local) {
            must(localTypes[local] == NONE);
            code.add(DO_STORE, local);
            localTypes[local] = takeType();
        }

        private void weaveSum(int operation) {
            code.add(operation, 0);
            takeInt();
            takeInt();
            putType(INT);
        }

        private void weaveNew(int t) {
            addMapped(DO_NEW, t);
            must(takeType() == source.rightOf[t]);
            must(takeType() == source.leftOf[t]);
            putType(t);
        }

        private void weavePut(int operation, int[] partTypes) {
            code.add(operation, 0);
            int put = takeType();
            must(put == partTypes[takePairType()]);
            putType(put);
        }

        private void weaveCall(int f, int arguments) {
            addMapped(DO_CALL, f);
            must(source.bodyOf[f] != NONE && arguments == source.parametersOf[f]);
            for (int k = arguments - 1; k >= 0 && wellTyped; k--) {
                must(takeType() == source.parameterType(f, k));
            }
            putType(source.resultOf[f]);
        }

        private void joinWays(int at) {
            must(takeType() == openTypes[at]);
            code.operand[openJumps[at]] = code.count;
            putType(openTypes[at]);
        }

        private void addMapped(int operation, int a) {
            int at = code.add(operation, a);
            int bits = 0;
            for (int k = 0; k < height; k++) {
                if (pileTypes[k] > INT) {
                    bits |= 1 << k;
                }
            }
            code.pileMap[at] = bits;
            code.mapped++;
        }

        private void must(boolean holds) {
            if (!holds) {
                wellTyped = false;
            }
        }

        private void takeInt() {
            must(takeType() == INT);
        }

        private int takePairType() {
            int t = takeType();
            must(t > INT);
            return t > INT ? t : INT;
        }

        private int takeType() {
            if (height == 0) {
                wellTyped = false;
                return INT;
            }
            height--;
            return pileTypes[height];
        }

        /** An ill typed CALL leaves its arguments lying, so the room is looked at. */
        private void putType(int t) {
            if (height == VALUES) {
                wellTyped = false;
                return;
            }
            pileTypes[height] = t;
            height++;
        }

        /** All jumps go forward, so one way back through the row meets each place after those it leads to. */
        private void findWhatMatters() {
            mattersBefore[code.count] = 0;
            for (int i = code.count - 1; i >= 0; i--) {
                int behind = mattersBehind(i);
                if (code.isMapped(i)) {
                    code.localMap[i] = behind;
                }
                if (code.operation[i] == DO_STORE) {
                    behind &= ~(1 << code.operand[i]);
                }
                if (code.operation[i] == DO_LOAD) {
                    behind |= pairLoads[i];
                }
                mattersBefore[i] = behind;
            }
        }

        private int mattersBehind(int i) {
            switch (code.operation[i]) {
                case DO_RET: return 0;
                case DO_JUMP: return mattersBefore[code.operand[i]];
                case DO_ZERO: return mattersBefore[i + 1] | mattersBefore[code.operand[i]];
                default: return mattersBefore[i + 1];
            }
        }
    }

    /** The PAIRs of a run, numbered from 1 on, so that NIL is none of them. */
    private static final class Pairs {
        final int[] lefts = new int[PAIRS + 1];
        final int[] rights = new int[PAIRS + 1];
        private final int[] types = new int[PAIRS + 1];
        /** All numbers of pairs: the first of them, as many as there are PAIRs, are in use. */
        private final int[] numbers = new int[PAIRS];
        private int count = 0;
        /** The collection in which a pair was last kept: so no marks need to be wiped out. */
        private final int[] keptIn = new int[PAIRS + 1];
        private int collection = 0;
        private final int[] kept = new int[PAIRS];
        private int keptCount = 0;

        Pairs() {
            for (int k = 0; k < PAIRS; k++) {
                numbers[k] = k + 1;
            }
        }

        void clear() {
            count = 0;
        }

        int words() {
            return count * PAIR_WORDS;
        }

        /** Asked only where the heap, and so this, has room. */
        int make(int t, int left, int right) {
            int pair = numbers[count];
            count++;
            types[pair] = t;
            lefts[pair] = left;
            rights[pair] = right;
            return pair;
        }

        void beginCollection() {
            collection++;
            keptCount = 0;
        }

        void keep(int pair) {
            if (pair != NIL && keptIn[pair] != collection) {
                keptIn[pair] = collection;
                kept[keptCount] = pair;
                keptCount++;
            }
        }

        void endCollection(int[] leftOf, int[] rightOf) {
            // Each pair comes into this row once, so it ends though it grows on the way.
            for (int k = 0; k < keptCount && k < PAIRS; k++) {
                int pair = kept[k];
                if (leftOf[types[pair]] != INT) {
                    keep(lefts[pair]);
                }
                if (rightOf[types[pair]] != INT) {
                    keep(rights[pair]);
                }
            }
            int staying = 0;
            for (int k = 0; k < count; k++) {
                int pair = numbers[k];
                if (keptIn[pair] == collection) {
                    numbers[k] = numbers[staying];
                    numbers[staying] = pair;
                    staying++;
                }
            }
            count = staying;
        }
    }

    /** The frames of a run: each has its share of one row of locals and one of values. */
    private static final class Frames {
        final int[] locals = new int[FRAMES * LOCALS];
        final int[] values = new int[FRAMES * VALUES];
        final int[] heights = new int[FRAMES];
        /** For each frame but the last, where its CALL lies. */
        final int[] calls = new int[FRAMES];
        int last = 0;

        void openFirst(int first, int second, int third) {
            last = 0;
            heights[0] = 0;
            locals[0] = first;
            locals[1] = second;
            locals[2] = third;
        }

        void openNext(int call, int arguments) {
            int from = last * VALUES + heights[last] - arguments;
            int to = (last + 1) * LOCALS;
            for (int k = 0; k < arguments; k++) {
                locals[to + k] = values[from + k];
            }
            heights[last] -= arguments;
            calls[last] = call;
            last++;
            heights[last] = 0;
        }

        void push(int v) {
            values[last * VALUES + heights[last]] = v;
            heights[last]++;
        }

        int pop() {
            heights[last]--;
            return values[last * VALUES + heights[last]];
        }

        int load(int local) {
            return locals[last * LOCALS + local];
        }

        void store(int local, int v) {
            locals[last * LOCALS + local] = v;
        }
    }

    /** Runs what is laid down; being well typed, it never takes what is not there. */
    private static final class Machine {
        private final Source source;
        private final Code code;
        private final Pairs pairs = new Pairs();
        private final Frames frames = new Frames();
        int heapWords = FIRST_WORDS;
        int forceEvery = 0;

        private int place = 0;
        private int begun = 0;

        private int over = NONE;
        private int steps = 0;
        private int collections = 0;
        private int stayed = 0;
        private int mostFrames = 0;
        private final int[] printed = new int[PRINTED];
        private int printedCount = 0;
        private int result = 0;
        private int resultType = INT;
        /** What the latest walk came to. */
        int reached = 0;

        Machine(Source source, Code code) {
            this.source = source;
            this.code = code;
        }

        void forget() {
            over = NONE;
        }

        int perform(int f, int first, int second, int third) {
            pairs.clear();
            frames.openFirst(first, second, third);
            place = code.startOf(f);
            begun = 0;
            over = RUNNING;
            steps = 0;
            collections = 0;
            stayed = 0;
            mostFrames = 1;
            printedCount = 0;
            resultType = source.resultOf[f];
            while (over == RUNNING && steps < STEPS) {
                steps++;
                doNext();
            }
            if (over == RUNNING) {
                over = OVER_BY_STEPS;
            }
            return over;
        }

        int report(int what) {
            if (over == NONE) {
                return NONE;
            }
            switch (what) {
                case 0: return over;
                case 1: return steps;
                case 2: return collections;
                case 3: return pairs.words();
                case 4: return stayed;
                case 5: return mostFrames;
                case 6: return printedCount;
                default: return NONE;
            }
        }

        int printedAt(int i) {
            return over != NONE && i >= 0 && i < printedCount ? printed[i] : 0;
        }

        int walk(int path, int n) {
            if (over != OVER_BY_RESULT || n < 0 || n > PATH_STEPS) {
                return NONE;
            }
            int at = result;
            int t = resultType;
            for (int k = 0; k < n; k++) {
                if (t == INT || at == NIL) {
                    return NONE;
                }
                boolean right = (path >>> k & 1) == 1;
                at = right ? pairs.rights[at] : pairs.lefts[at];
                t = right ? code.rightOf[t] : code.leftOf[t];
            }
            reached = at;
            if (t == INT) {
                return CAME_TO_INT;
            }
            return at == NIL ? CAME_TO_NIL : CAME_TO_PAIR;
        }

        private void doNext() {
            int here = place;
            int a = code.operand[here];
            place = here + 1;
            switch (code.operation[here]) {
                case DO_PUSH: frames.push(a); break;
                case DO_NULL: frames.push(NIL); break;
                case DO_LOAD: frames.push(frames.load(a)); break;
                case DO_STORE: frames.store(a, frames.pop()); break;
                case DO_DROP: frames.pop(); break;
                case DO_ADD: case DO_SUB: case DO_LESS: doSum(code.operation[here]); break;
                case DO_NEW: doNew(here, a); break;
                case DO_LEFT: doGet(pairs.lefts); break;
                case DO_RIGHT: doGet(pairs.rights); break;
                case DO_PUTLEFT: doSet(pairs.lefts); break;
                case DO_PUTRIGHT: doSet(pairs.rights); break;
                case DO_EMPTY: frames.push(frames.pop() == NIL ? 1 : 0); break;
                case DO_ZERO: place = frames.pop() == 0 ? a : place; break;
                case DO_JUMP: place = a; break;
                case DO_CALL: doCall(here, a); break;
                case DO_RET: doReturn(); break;
                case DO_PUT: doPrint(); break;
                default: break;
            }
        }

        private void doSum(int operation) {
            int second = frames.pop();
            int first = frames.pop();
            switch (operation) {
                case DO_ADD: frames.push(first + second); break;
                case DO_SUB: frames.push(first - second); break;
                default: frames.push(first < second ? 1 : 0); break;
            }
        }

        private void doNew(int here, int t) {
            if (isForced() || isFull()) {
                collect(here);
            }
            if (isFull()) {
                over = OVER_BY_HEAP;
                return;
            }
            int right = frames.pop();
            int left = frames.pop();
            frames.push(pairs.make(t, left, right));
        }

        private void doCall(int here, int f) {
            if (isForced()) {
                collect(here);
            }
            if (frames.last + 1 == FRAMES) {
                over = OVER_BY_FRAMES;
                return;
            }
            frames.openNext(here, source.parametersOf[f]);
            mostFrames = Math.max(mostFrames, frames.last + 1);
            place = code.startOf(f);
        }

        private void doReturn() {
            int answer = frames.pop();
            if (frames.last == 0) {
                result = answer;
                over = OVER_BY_RESULT;
                return;
            }
            frames.last--;
            frames.push(answer);
            place = frames.calls[frames.last] + 1;
        }

        private void doGet(int[] halves) {
            int pair = frames.pop();
            if (pair == NIL) {
                over = OVER_BY_NIL;
                return;
            }
            frames.push(halves[pair]);
        }

        private void doSet(int[] halves) {
            int put = frames.pop();
            int pair = frames.pop();
            if (pair == NIL) {
                over = OVER_BY_NIL;
                return;
            }
            halves[pair] = put;
            frames.push(put);
        }

        private void doPrint() {
            int v = frames.pop();
            if (printedCount < PRINTED) {
                printed[printedCount] = v;
                printedCount++;
            }
            frames.push(v);
        }

        /** Asked once at each NEW and CALL: it counts them. */
        private boolean isForced() {
            begun++;
            return forceEvery > 0 && begun % forceEvery == 0;
        }

        private boolean isFull() {
            return pairs.words() + PAIR_WORDS > heapWords;
        }

        private void collect(int here) {
            pairs.beginCollection();
            for (int frame = 0; frame <= frames.last; frame++) {
                keepFrom(frame, frame == frames.last ? here : frames.calls[frame]);
            }
            pairs.endCollection(code.leftOf, code.rightOf);
            collections++;
            stayed = pairs.words();
        }

        private void keepFrom(int frame, int at) {
            for (int local = 0; local < LOCALS; local++) {
                if ((code.localMap[at] >>> local & 1) == 1) {
                    pairs.keep(frames.locals[frame * LOCALS + local]);
                }
            }
            // A CALL's map has what it took, too: the pile's height leaves that out.
            for (int k = 0; k < frames.heights[frame]; k++) {
                if ((code.pileMap[at] >>> k & 1) == 1) {
                    pairs.keep(frames.values[frame * VALUES + k]);
                }
            }
        }
    }
}
