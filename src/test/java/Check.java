/** Counts and prints the calls whose answer is not the one that is due. */
final class Check {
    private final String name;
    private int calls = 0;
    private int wrong = 0;

    Check(String name) {
        this.name = name;
    }

    void due(String call, int got, int want) {
        calls++;
        if (got != want) {
            wrong++;
            System.out.println(name + ": " + call + " answered " + got + ", due is " + want);
        }
    }

    void holds(String what, boolean isSo) {
        due(what, isSo ? 1 : 0, 1);
    }

    /** The pairs of all entries of the trace: what came, the number, what came, the number .. */
    void traceIs(ConstantStarts x, int... pairs) {
        due("told(2)", x.told(2), pairs.length / 2);
        for (int i = 0; i < pairs.length / 2; i++) {
            due("trace(" + i + ", 0)", x.trace(i, 0), pairs[2 * i]);
            due("trace(" + i + ", 1)", x.trace(i, 1), pairs[2 * i + 1]);
        }
        due("trace past the end", x.trace(pairs.length / 2, 0), ConstantStarts.NONE);
    }

    void faultIs(ConstantStarts x, int fault, int number, int cause, int causeNumber) {
        due("fault(0)", x.fault(0), fault);
        due("fault(1)", x.fault(1), number);
        due("fault(2)", x.fault(2), cause);
        due("fault(3)", x.fault(3), causeNumber);
    }

    void needIs(ConstantStarts x, int loader, int constant, int value) {
        due("need(" + loader + ", " + constant + ")", x.need(loader, constant), 1);
        due("value() of constant " + constant, x.value(), value);
    }

    boolean isGood() {
        return wrong == 0 && calls > 0;
    }

    void end() {
        System.out.println(name + ": " + calls + " answers, " + wrong + " wrong");
        if (!isGood()) {
            System.exit(1);
        }
    }
}
