/**
 * Constants that are worked when they are needed first, at most once, in modules that start first.
 * Modules and constants are told once for all loaders; what starts and what is worked is each
 * loader's own.
 */
public final class ConstantStarts {
    public static final int BAD = -1, FULL = -2, NONE = -3;

    private static final int MODULES = 12;
    private static final int CONSTANTS = 40;
    private static final int LOADERS = 3;
    private static final int ROW = 8;
    private static final int USED = 6;
    private static final int DEEDS = 6;
    private static final int TRACE = 200;
    private static final int ALIKE_CALLS = 40;

    /**
     * No chain goes deeper: a module that begins adds two levels at most (the constant that asks for
     * it and itself), a constant that is worked one, and each of them stands open once.
     */
    private static final int DEEPEST = 2 * MODULES + CONSTANTS + 2;

    private static final int KIND_NUMBER = 0;
    private static final int KIND_SUM = 1;
    private static final int KIND_PRODUCT = 2;
    private static final int KIND_QUOTIENT = 3;
    private static final int KIND_ITEM = 4;
    private static final int KIND_RESCUE = 5;
    private static final int KIND_OWN = 6;
    private static final int KIND_CHOICE = 7;
    private static final int KIND_STATE = 8;
    private static final int KIND_SIZE = 9;
    private static final int KIND_START = 10;
    private static final int KIND_STORE = 11;

    /** For each kind, how many of a, b, c, from the left, are numbers of constants. */
    private static final int[] NAMED_CONSTANTS = {0, 1, 2, 2, 1, 1, 0, 3, 0, 0, 0, 1};

    private static final int DEED_NEED = 0;
    private static final int DEED_START = 1;
    private static final int DEED_LIBRARY = 2;

    private static final int NO_FAULT = 0;
    private static final int ZERO = 1;
    private static final int PLACE = 2;
    private static final int OWN = 3;
    private static final int ENDLESS = 4;
    private static final int START = 5;
    private static final int GONE = 6;
    private static final int LIBRARY = 7;
    private static final int MISSING = 8;

    /** These four are also the values of KIND_STATE. */
    private static final int NOTHING = 0;
    private static final int STARTED = 1;
    private static final int STARTING = 2;
    private static final int BROKEN = 3;

    private static final int UNWORKED = 0;
    private static final int WORKING = 1;
    private static final int WORKED = 2;

    private static final int START_BEGINS = 0;
    private static final int START_ENDS = 1;
    private static final int START_BREAKS = 2;
    private static final int WORK_BEGINS = 3;
    private static final int VALUE_CAME = 4;
    private static final int FAULT_CAME = 5;

    private final Plan plan;
    private final Trace events;
    private final Loader[] loaders;
    private final Outcome latest;
    private int latestValue;

    private final Loader aside;
    private final int[] order;
    private final int[] plainFaults;
    private final int[] plainValues;
    private int alikeCalls;

    public ConstantStarts() {
        plan = new Plan();
        events = new Trace();
        loaders = new Loader[LOADERS];
        for (int i = 0; i < LOADERS; i++) {
            loaders[i] = new Loader(plan, events);
        }
        latest = new Outcome();
        aside = new Loader(plan, new Trace());
        order = new int[CONSTANTS];
        plainFaults = new int[CONSTANTS];
        plainValues = new int[CONSTANTS];
    }

    public int module(int n) {
        return plan.addModule(n);
    }

    public int item(int module, int i, int v) {
        return plan.setItem(module, i, v);
    }

    public int uses(int module, int other) {
        return plan.addUsed(module, other);
    }

    public int deed(int module, int kind, int n) {
        return plan.addDeed(module, kind, n);
    }

    public int constant(int module, int kind, int a, int b, int c) {
        return plan.addConstant(module, kind, a, b, c);
    }

    public int need(int loader, int constant) {
        Loader at = loaderAt(loader);
        if (at == null || !plan.hasConstant(constant)) {
            return BAD;
        }
        events.clear();
        boolean good = at.obtain(constant, 0);
        if (good) {
            latestValue = at.now.value;
        }
        return answer(at, good);
    }

    public int value() {
        return latestValue;
    }

    public int start(int loader, int module) {
        Loader at = loaderAt(loader);
        if (at == null || !plan.hasModule(module)) {
            return BAD;
        }
        events.clear();
        return answer(at, at.begin(module, 0));
    }

    public int fault(int what) {
        switch (what) {
            case 0:
                return latest.fault;
            case 1:
                return latest.number;
            case 2:
                return latest.cause;
            case 3:
                return latest.causeNumber;
            default:
                return BAD;
        }
    }

    public int state(int loader, int module) {
        Loader at = loaderAt(loader);
        return at == null || !plan.hasModule(module) ? BAD : at.states[module];
    }

    public int kept(int loader, int constant) {
        Loader at = loaderAt(loader);
        return at == null || !plan.hasConstant(constant) ? BAD : at.tellKept(constant);
    }

    public int row(int loader, int module, int i) {
        Loader at = loaderAt(loader);
        if (at == null || !plan.hasModule(module)) {
            return BAD;
        }
        return plan.hasItem(module, i) ? at.tellItem(module, i) : NONE;
    }

    public int trace(int i, int what) {
        if (what != 0 && what != 1) {
            return BAD;
        }
        if (i < 0 || i >= events.count) {
            return NONE;
        }
        return what == 0 ? events.kinds[i] : events.numbers[i];
    }

    public int forget(int loader) {
        Loader at = loaderAt(loader);
        if (at == null) {
            return BAD;
        }
        int ended = at.countEnded();
        at.clear();
        return ended;
    }

    public int alike(int seed) {
        if (alikeCalls >= ALIKE_CALLS) {
            return FULL;
        }
        alikeCalls++;
        needByNumbers();
        mixOrder(seed);
        return countUnlike();
    }

    public int told(int what) {
        switch (what) {
            case 0:
                return plan.moduleCount;
            case 1:
                return plan.constantCount;
            case 2:
                return events.count;
            case 3:
                return countWorked();
            default:
                return BAD;
        }
    }

    private Loader loaderAt(int loader) {
        return loader >= 0 && loader < LOADERS ? loaders[loader] : null;
    }

    private int answer(Loader at, boolean good) {
        if (good) {
            latest.succeed(0);
            return 1;
        }
        latest.copy(at.now);
        return -10 - latest.fault;
    }

    private int countWorked() {
        int sum = 0;
        for (int i = 0; i < LOADERS; i++) {
            sum += loaders[i].workedCount;
        }
        return sum;
    }

    /** What comes out is noted at once: what a module's start fails by is not kept in the loader. */
    private void needByNumbers() {
        aside.clear();
        for (int i = 0; i < plan.constantCount; i++) {
            aside.obtain(i, 0);
            plainFaults[i] = aside.now.fault;
            plainValues[i] = aside.now.value;
        }
    }

    private void mixOrder(int seed) {
        for (int i = 0; i < plan.constantCount; i++) {
            order[i] = i;
        }
        int x = seed;
        for (int k = plan.constantCount - 1; k >= 1; k--) {
            x = x * 1103515245 + 12345;
            int other = (x >>> 16) % (k + 1);
            int moved = order[k];
            order[k] = order[other];
            order[other] = moved;
        }
    }

    private int countUnlike() {
        aside.clear();
        int unlike = 0;
        for (int i = 0; i < plan.constantCount; i++) {
            int constant = order[i];
            aside.obtain(constant, 0);
            if (aside.now.fault != plainFaults[constant] || aside.now.value != plainValues[constant]) {
                unlike++;
            }
        }
        return unlike;
    }

    /** What was told: the same for all loaders. */
    private static final class Plan {
        private int moduleCount;
        private final int[] rowLengths = new int[MODULES];
        private final int[][] firstRows = new int[MODULES][ROW];
        private final int[] usedCounts = new int[MODULES];
        private final int[][] used = new int[MODULES][USED];
        private final int[] deedCounts = new int[MODULES];
        private final int[][] deedKinds = new int[MODULES][DEEDS];
        private final int[][] deedNumbers = new int[MODULES][DEEDS];
        private int constantCount;
        private final int[] owners = new int[CONSTANTS];
        private final int[] kinds = new int[CONSTANTS];
        private final int[] as = new int[CONSTANTS];
        private final int[] bs = new int[CONSTANTS];
        private final int[] cs = new int[CONSTANTS];

        private boolean hasModule(int module) {
            return module >= 0 && module < moduleCount;
        }

        private boolean hasItem(int module, int i) {
            return hasModule(module) && i >= 0 && i < rowLengths[module];
        }

        private boolean hasConstant(int constant) {
            return constant >= 0 && constant < constantCount;
        }

        private int addModule(int rowLength) {
            if (rowLength < 0 || rowLength > ROW) {
                return BAD;
            }
            if (moduleCount >= MODULES) {
                return FULL;
            }
            rowLengths[moduleCount] = rowLength;
            return moduleCount++;
        }

        private int setItem(int module, int i, int v) {
            if (!hasItem(module, i)) {
                return BAD;
            }
            firstRows[module][i] = v;
            return 1;
        }

        private int addUsed(int module, int other) {
            if (!hasModule(module) || !hasModule(other)) {
                return BAD;
            }
            if (usedCounts[module] >= USED) {
                return FULL;
            }
            used[module][usedCounts[module]] = other;
            usedCounts[module]++;
            return usedCounts[module];
        }

        private int addDeed(int module, int kind, int n) {
            if (!hasModule(module) || !isDeed(kind, n)) {
                return BAD;
            }
            int count = deedCounts[module];
            if (count >= DEEDS) {
                return FULL;
            }
            deedKinds[module][count] = kind;
            deedNumbers[module][count] = n;
            deedCounts[module] = count + 1;
            return count + 1;
        }

        private boolean isDeed(int kind, int n) {
            switch (kind) {
                case DEED_NEED:
                    return mayBeConstant(n);
                case DEED_START:
                    return hasModule(n);
                default:
                    return kind == DEED_LIBRARY;
            }
        }

        private int addConstant(int module, int kind, int a, int b, int c) {
            if (!hasModule(module) || !isFormula(kind, a, b, c)) {
                return BAD;
            }
            if (constantCount >= CONSTANTS) {
                return FULL;
            }
            owners[constantCount] = module;
            kinds[constantCount] = kind;
            as[constantCount] = a;
            bs[constantCount] = b;
            cs[constantCount] = c;
            return constantCount++;
        }

        private boolean isFormula(int kind, int a, int b, int c) {
            if (kind < 0 || kind >= NAMED_CONSTANTS.length) {
                return false;
            }
            if (kind == KIND_STATE || kind == KIND_SIZE || kind == KIND_START) {
                return hasModule(a);
            }
            int named = NAMED_CONSTANTS[kind];
            return (named < 1 || mayBeConstant(a))
                && (named < 2 || mayBeConstant(b))
                && (named < 3 || mayBeConstant(c));
        }

        /** A constant that is named need not be there yet. */
        private boolean mayBeConstant(int n) {
            return n >= 0 && n < CONSTANTS;
        }

        private int countConstants(int module) {
            int count = 0;
            for (int i = 0; i < constantCount; i++) {
                if (owners[i] == module) {
                    count++;
                }
            }
            return count;
        }
    }

    /** What came out: a value, or a fault with its number and its cause. All that it has not is 0. */
    private static final class Outcome {
        private int value;
        private int fault;
        private int number;
        private int cause;
        private int causeNumber;

        /** Always true, so that a working can end with it. */
        private boolean succeed(int v) {
            value = v;
            fault = NO_FAULT;
            number = 0;
            cause = NO_FAULT;
            causeNumber = 0;
            return true;
        }

        /** Always false, so that a working can end with it. */
        private boolean fail(int newFault, int newNumber) {
            value = 0;
            fault = newFault;
            number = newNumber;
            cause = newFault;
            causeNumber = newNumber;
            return false;
        }

        /** The fault that stands here broke the module's start: its cause stays. Always false. */
        private boolean failStart(int module) {
            fault = START;
            number = module;
            return false;
        }

        private void copy(Outcome other) {
            value = other.value;
            fault = other.fault;
            number = other.number;
            cause = other.cause;
            causeNumber = other.causeNumber;
        }
    }

    /** What came in one call, in order; what comes when it is full is not noted. */
    private static final class Trace {
        private final int[] kinds = new int[TRACE];
        private final int[] numbers = new int[TRACE];
        private int count;

        private void clear() {
            count = 0;
        }

        private void note(int kind, int number) {
            if (count < TRACE) {
                kinds[count] = kind;
                numbers[count] = number;
                count++;
            }
        }
    }

    /** All that one loader has. The methods that answer a boolean leave what came out in now. */
    private static final class Loader {
        private final Plan plan;
        private final Trace events;
        private final int[] states = new int[MODULES];
        private final int[][] rows = new int[MODULES][ROW];
        private final int[] stages = new int[CONSTANTS];
        private final Outcome[] outcomes = new Outcome[CONSTANTS];
        private final Outcome now = new Outcome();
        private int workedCount;

        private Loader(Plan plan, Trace events) {
            this.plan = plan;
            this.events = events;
            for (int i = 0; i < CONSTANTS; i++) {
                outcomes[i] = new Outcome();
            }
        }

        /** Rows and outcomes may stay: they are not looked at before they are written anew. */
        private void clear() {
            for (int i = 0; i < MODULES; i++) {
                states[i] = NOTHING;
            }
            for (int i = 0; i < CONSTANTS; i++) {
                stages[i] = UNWORKED;
            }
        }

        private int countEnded() {
            int count = 0;
            for (int i = 0; i < MODULES; i++) {
                if (states[i] == STARTED || states[i] == BROKEN) {
                    count++;
                }
            }
            return count;
        }

        private int tellKept(int constant) {
            if (stages[constant] != WORKED) {
                return 0;
            }
            int fault = outcomes[constant].fault;
            return fault == NO_FAULT ? 1 : 10 + fault;
        }

        private int tellItem(int module, int i) {
            return states[module] == NOTHING ? plan.firstRows[module][i] : rows[module][i];
        }

        /** A constant is needed: true if a value came out. */
        private boolean obtain(int constant, int depth) {
            if (!plan.hasConstant(constant)) {
                return now.fail(MISSING, constant);
            }
            if (!begin(plan.owners[constant], depth + 1)) {
                return false;
            }
            if (stages[constant] == WORKED) {
                now.copy(outcomes[constant]);
                return now.fault == NO_FAULT;
            }
            if (stages[constant] == WORKING || depth > DEEPEST) {
                return now.fail(ENDLESS, constant);
            }
            return work(constant, depth);
        }

        private boolean work(int constant, int depth) {
            stages[constant] = WORKING;
            workedCount++;
            events.note(WORK_BEGINS, constant);
            boolean good = reckon(constant, depth + 1);
            outcomes[constant].copy(now);
            stages[constant] = WORKED;
            events.note(good ? VALUE_CAME : FAULT_CAME, constant);
            return good;
        }

        private boolean reckon(int constant, int depth) {
            int a = plan.as[constant];
            int b = plan.bs[constant];
            switch (plan.kinds[constant]) {
                case KIND_NUMBER:
                    return now.succeed(a);
                case KIND_SUM:
                    return obtain(a, depth) && now.succeed(now.value + b);
                case KIND_PRODUCT:
                    return multiply(a, b, depth);
                case KIND_QUOTIENT:
                    return divide(a, b, depth);
                case KIND_ITEM:
                    return obtain(a, depth) && readItem(plan.owners[constant], now.value);
                case KIND_RESCUE:
                    return obtain(a, depth) || now.succeed(b);
                case KIND_CHOICE:
                    return obtain(a, depth) && obtain(now.value != 0 ? b : plan.cs[constant], depth);
                case KIND_STATE:
                    return now.succeed(states[a]);
                case KIND_SIZE:
                    return now.succeed(plan.countConstants(a));
                case KIND_START:
                    return begin(a, depth) && now.succeed(1);
                case KIND_STORE:
                    return obtain(a, depth) && writeItem(plan.owners[constant], b, now.value);
                case KIND_OWN:
                default:
                    return now.fail(OWN, a);
            }
        }

        private boolean multiply(int a, int b, int depth) {
            if (!obtain(a, depth)) {
                return false;
            }
            int left = now.value;
            return obtain(b, depth) && now.succeed(left * now.value);
        }

        private boolean divide(int a, int b, int depth) {
            if (!obtain(a, depth)) {
                return false;
            }
            int left = now.value;
            if (!obtain(b, depth)) {
                return false;
            }
            int right = now.value;
            return right == 0 ? now.fail(ZERO, 0) : now.succeed(left / right);
        }

        private boolean readItem(int module, int i) {
            return plan.hasItem(module, i) ? now.succeed(rows[module][i]) : now.fail(PLACE, 0);
        }

        private boolean writeItem(int module, int i, int v) {
            if (!plan.hasItem(module, i)) {
                return now.fail(PLACE, 0);
            }
            rows[module][i] = v;
            return now.succeed(v);
        }

        /** A module is started: true if nothing failed; now has no meaning then. */
        private boolean begin(int module, int depth) {
            if (states[module] == STARTED || states[module] == STARTING) {
                return true;
            }
            if (states[module] == BROKEN || depth > DEEPEST) {
                return now.fail(GONE, module);
            }
            states[module] = STARTING;
            events.note(START_BEGINS, module);
            System.arraycopy(plan.firstRows[module], 0, rows[module], 0, ROW);
            boolean good = beginUsed(module, depth + 1) && doDeeds(module, depth + 1);
            states[module] = good ? STARTED : BROKEN;
            events.note(good ? START_ENDS : START_BREAKS, module);
            return good || now.failStart(module);
        }

        private boolean beginUsed(int module, int depth) {
            for (int i = 0; i < plan.usedCounts[module]; i++) {
                if (!begin(plan.used[module][i], depth)) {
                    return false;
                }
            }
            return true;
        }

        private boolean doDeeds(int module, int depth) {
            for (int i = 0; i < plan.deedCounts[module]; i++) {
                if (!doDeed(plan.deedKinds[module][i], plan.deedNumbers[module][i], depth)) {
                    return false;
                }
            }
            return true;
        }

        private boolean doDeed(int kind, int n, int depth) {
            switch (kind) {
                case DEED_NEED:
                    return obtain(n, depth);
                case DEED_START:
                    return begin(n, depth);
                default:
                    return now.fail(LIBRARY, n);
            }
        }
    }
}
