public final class P14TraceTest {
    public static void main(String[] args) {
        Check check = new Check("trace");
        everythingThatComes(check);
        edges(check);
        longest(check);
        check.end();
    }

    private static void everythingThatComes(Check check) {
        ConstantStarts x = new ConstantStarts();
        x.module(0);
        x.module(0);
        x.module(0);
        x.uses(0, 1);
        x.deed(2, 2, 4);
        x.constant(2, 0, 5, 0, 0);
        x.constant(1, 1, 0, 1, 0);
        x.constant(0, 5, 1, 6, 0);
        check.needIs(x, 0, 2, 6);
        check.traceIs(x, 0, 0, 0, 1, 1, 1, 1, 0, 3, 2, 3, 1, 0, 2, 2, 2, 5, 1, 4, 2);
        x.alike(1);
        x.forget(0);
        check.traceIs(x, 0, 0, 0, 1, 1, 1, 1, 0, 3, 2, 3, 1, 0, 2, 2, 2, 5, 1, 4, 2);
        check.due("start(1, 1)", x.start(1, 1), 1);
        check.traceIs(x, 0, 1, 1, 1);
    }

    private static void edges(Check check) {
        ConstantStarts x = new ConstantStarts();
        x.module(0);
        x.start(0, 0);
        check.due("trace(0, -1)", x.trace(0, -1), ConstantStarts.BAD);
        check.due("trace(0, 2)", x.trace(0, 2), ConstantStarts.BAD);
        check.due("trace(9, 2)", x.trace(9, 2), ConstantStarts.BAD);
        check.due("trace(-1, 0)", x.trace(-1, 0), ConstantStarts.NONE);
        check.due("trace(2, 1)", x.trace(2, 1), ConstantStarts.NONE);
        check.due("trace(199, 0)", x.trace(199, 0), ConstantStarts.NONE);
        check.due("trace(200, 0)", x.trace(200, 0), ConstantStarts.NONE);
        check.due("trace(MAX, 1)", x.trace(Integer.MAX_VALUE, 1), ConstantStarts.NONE);
        check.due("trace(MIN, 1)", x.trace(Integer.MIN_VALUE, 1), ConstantStarts.NONE);
    }

    /** Each module and each constant comes twice at most: 104 entries is the longest trace. */
    private static void longest(Check check) {
        ConstantStarts x = new ConstantStarts();
        for (int i = 0; i < 12; i++) {
            x.module(0);
        }
        for (int i = 0; i < 11; i++) {
            x.uses(i, i + 1);
        }
        for (int i = 0; i < 39; i++) {
            x.constant(0, 1, i + 1, 1, 0);
        }
        x.constant(0, 0, 0, 0, 0);
        check.needIs(x, 0, 0, 39);
        check.due("told(2)", x.told(2), 104);
        for (int i = 0; i < 12; i++) {
            check.due("module begins", x.trace(i, 0), 0);
            check.due("module begins", x.trace(i, 1), i);
            check.due("module started", x.trace(12 + i, 0), 1);
            check.due("module started", x.trace(12 + i, 1), 11 - i);
        }
        for (int i = 0; i < 40; i++) {
            check.due("constant begins", x.trace(24 + i, 0), 3);
            check.due("constant begins", x.trace(24 + i, 1), i);
            check.due("a value came", x.trace(64 + i, 0), 4);
            check.due("a value came", x.trace(64 + i, 1), 39 - i);
        }
        check.due("trace(104, 0)", x.trace(104, 0), ConstantStarts.NONE);
    }
}
