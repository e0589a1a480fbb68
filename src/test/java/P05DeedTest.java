public final class P05DeedTest {
    public static void main(String[] args) {
        Check check = new Check("deed");
        answers(check);
        doneInOrderUntilOneFails(check);
        needOfAMissingConstant(check);
        check.end();
    }

    private static void answers(Check check) {
        ConstantStarts x = new ConstantStarts();
        x.module(0);
        x.module(0);
        check.due("deed(2, 0, 0)", x.deed(2, 0, 0), ConstantStarts.BAD);
        check.due("deed(-1, 0, 0)", x.deed(-1, 0, 0), ConstantStarts.BAD);
        check.due("deed(0, -1, 0)", x.deed(0, -1, 0), ConstantStarts.BAD);
        check.due("deed(0, 3, 0)", x.deed(0, 3, 0), ConstantStarts.BAD);
        check.due("deed(0, 0, -1)", x.deed(0, 0, -1), ConstantStarts.BAD);
        check.due("deed(0, 0, 40)", x.deed(0, 0, 40), ConstantStarts.BAD);
        check.due("deed(0, 1, -1)", x.deed(0, 1, -1), ConstantStarts.BAD);
        check.due("deed(0, 1, 2)", x.deed(0, 1, 2), ConstantStarts.BAD);
        check.due("deed(0, 0, 0)", x.deed(0, 0, 0), 1);
        check.due("deed(0, 0, 39)", x.deed(0, 0, 39), 2);
        check.due("deed(0, 1, 0)", x.deed(0, 1, 0), 3);
        check.due("deed(0, 1, 1)", x.deed(0, 1, 1), 4);
        check.due("deed(0, 2, MIN)", x.deed(0, 2, Integer.MIN_VALUE), 5);
        check.due("deed(0, 2, 40)", x.deed(0, 2, 40), 6);
        check.due("deed(0, 2, 0)", x.deed(0, 2, 0), ConstantStarts.FULL);
        check.due("deed(0, 0, 40) when full", x.deed(0, 0, 40), ConstantStarts.BAD);
        check.due("deed(1, 2, 0)", x.deed(1, 2, 0), 1);
    }

    private static void doneInOrderUntilOneFails(Check check) {
        ConstantStarts x = new ConstantStarts();
        x.module(0);
        x.module(0);
        x.constant(0, 0, 1, 0, 0);
        x.constant(0, 0, 2, 0, 0);
        x.deed(0, 0, 1);
        x.deed(0, 1, 1);
        x.deed(0, 2, -5);
        x.deed(0, 0, 0);
        check.due("start(0, 0)", x.start(0, 0), -15);
        check.traceIs(x, 0, 0, 3, 1, 4, 1, 0, 1, 1, 1, 2, 0);
        check.faultIs(x, 5, 0, 7, -5);
        check.due("kept(0, 1)", x.kept(0, 1), 1);
        check.due("kept(0, 0)", x.kept(0, 0), 0);
    }

    private static void needOfAMissingConstant(Check check) {
        ConstantStarts x = new ConstantStarts();
        x.module(0);
        x.deed(0, 0, 39);
        check.due("start(0, 0)", x.start(0, 0), -15);
        check.faultIs(x, 5, 0, 8, 39);
        check.traceIs(x, 0, 0, 2, 0);
    }
}
