import java.util.ArrayList;
import java.util.List;

/** One object under test: every call gets its text, and none goes beyond the 512 that are promised. */
final class Watched {
    private static final int CALLS = 512;

    private final ConstantStarts x = new ConstantStarts();
    private final Check check;
    private int calls = 0;

    Watched(Check check) {
        this.check = check;
    }

    /** What a call answered, to be held against what is due. */
    static final class Answer {
        private final Check check;
        private final String call;
        private final int got;

        private Answer(Check check, String call, int got) {
            this.check = check;
            this.call = call;
            this.got = got;
        }

        void is(int want) {
            check.due(call, got, want);
        }

        void isBad() {
            is(ConstantStarts.BAD);
        }

        void isFull() {
            is(ConstantStarts.FULL);
        }

        void isNone() {
            is(ConstantStarts.NONE);
        }

        void failsBy(int fault) {
            is(-10 - fault);
        }
    }

    private Answer answer(int got, String method, int... arguments) {
        calls++;
        StringBuilder call = new StringBuilder("call " + calls + ", " + method + "(");
        for (int i = 0; i < arguments.length; i++) {
            call.append(i == 0 ? "" : ", ").append(arguments[i]);
        }
        call.append(")");
        if (calls > CALLS) {
            check.holds(call + " goes beyond the calls that are promised", false);
        }
        return new Answer(check, call.toString(), got);
    }

    int calls() {
        return calls;
    }

    Answer module(int n) {
        return answer(x.module(n), "module", n);
    }

    Answer item(int module, int i, int v) {
        return answer(x.item(module, i, v), "item", module, i, v);
    }

    Answer uses(int module, int other) {
        return answer(x.uses(module, other), "uses", module, other);
    }

    Answer deed(int module, int kind, int n) {
        return answer(x.deed(module, kind, n), "deed", module, kind, n);
    }

    Answer constant(int module, int kind, int a, int b, int c) {
        return answer(x.constant(module, kind, a, b, c), "constant", module, kind, a, b, c);
    }

    Answer need(int loader, int constant) {
        return answer(x.need(loader, constant), "need", loader, constant);
    }

    Answer value() {
        return answer(x.value(), "value");
    }

    Answer start(int loader, int module) {
        return answer(x.start(loader, module), "start", loader, module);
    }

    Answer fault(int what) {
        return answer(x.fault(what), "fault", what);
    }

    Answer state(int loader, int module) {
        return answer(x.state(loader, module), "state", loader, module);
    }

    Answer kept(int loader, int constant) {
        return answer(x.kept(loader, constant), "kept", loader, constant);
    }

    Answer row(int loader, int module, int i) {
        return answer(x.row(loader, module, i), "row", loader, module, i);
    }

    Answer trace(int i, int what) {
        return answer(x.trace(i, what), "trace", i, what);
    }

    Answer forget(int loader) {
        return answer(x.forget(loader), "forget", loader);
    }

    Answer alike(int seed) {
        return answer(x.alike(seed), "alike", seed);
    }

    Answer told(int what) {
        return answer(x.told(what), "told", what);
    }

    void modules(int count, int rowLength) {
        for (int i = 0; i < count; i++) {
            module(rowLength);
        }
    }

    /** A constant of kind 0. */
    Answer number(int module, int n) {
        return constant(module, 0, n, 0, 0);
    }

    void needIs(int loader, int constant, int value) {
        need(loader, constant).is(1);
        value().is(value);
    }

    void faultIs(int fault, int number, int cause, int causeNumber) {
        fault(0).is(fault);
        fault(1).is(number);
        fault(2).is(cause);
        fault(3).is(causeNumber);
    }

    void noFault() {
        faultIs(Faults.NO_FAULT, 0, Faults.NO_FAULT, 0);
    }

    /** The pairs of all entries of the trace: what came, the number, what came, the number .. */
    void traceIs(int... pairs) {
        told(2).is(pairs.length / 2);
        for (int i = 0; i < pairs.length; i++) {
            trace(i / 2, i % 2).is(pairs[i]);
        }
        trace(pairs.length / 2, 0).isNone();
    }

    /** All that can be asked of the loaders and of the latest call. Asking changes nothing. */
    private List<Integer> everything() {
        List<Integer> all = new ArrayList<>();
        for (int what = 0; what < 4; what++) {
            all.add(told(what).got);
            all.add(fault(what).got);
        }
        all.add(value().got);
        int entries = told(2).got;
        for (int i = 0; i < entries; i++) {
            all.add(trace(i, 0).got);
            all.add(trace(i, 1).got);
        }
        int modules = told(0).got;
        int constants = told(1).got;
        for (int loader = 0; loader < 3; loader++) {
            for (int module = 0; module < modules; module++) {
                all.add(state(loader, module).got);
                all.add(row(loader, module, 0).got);
            }
            for (int constant = 0; constant < constants; constant++) {
                all.add(kept(loader, constant).got);
            }
        }
        return all;
    }

    /** What the calls do not change: all that can be asked before them and after them. */
    void unchangedBy(Runnable refusedCalls) {
        List<Integer> before = everything();
        refusedCalls.run();
        List<Integer> after = everything();
        check.holds("nothing is changed: " + before + " before, " + after + " after", before.equals(after));
    }
}
