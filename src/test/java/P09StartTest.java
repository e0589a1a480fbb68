public final class P09StartTest {
    public static void main(String[] args) {
        Check check = new Check("start");
        badOnes(check);
        startsOnce(check);
        breaksForGood(check);
        ringThatBreaksAlone(check);
        check.end();
    }

    private static void badOnes(Check check) {
        ConstantStarts x = new ConstantStarts();
        x.module(0);
        x.deed(0, 2, 5);
        check.due("start(0, 0)", x.start(0, 0), -15);
        check.due("start(-1, 0)", x.start(-1, 0), ConstantStarts.BAD);
        check.due("start(3, 0)", x.start(3, 0), ConstantStarts.BAD);
        check.due("start(0, -1)", x.start(0, -1), ConstantStarts.BAD);
        check.due("start(0, 1)", x.start(0, 1), ConstantStarts.BAD);
        // A call that is refused starts nothing, so what the latest one told stays.
        check.faultIs(x, 5, 0, 7, 5);
        check.traceIs(x, 0, 0, 2, 0);
    }

    private static void startsOnce(Check check) {
        ConstantStarts x = new ConstantStarts();
        x.module(0);
        x.constant(0, 0, 5, 0, 0);
        x.deed(0, 0, 0);
        check.due("start(0, 0)", x.start(0, 0), 1);
        check.traceIs(x, 0, 0, 3, 0, 4, 0, 1, 0);
        check.due("start(0, 0) again", x.start(0, 0), 1);
        check.traceIs(x);
        x.deed(0, 2, 4);
        check.due("a deed told later is not done", x.start(0, 0), 1);
        check.due("but in another loader", x.start(1, 0), -15);
    }

    private static void breaksForGood(Check check) {
        ConstantStarts x = new ConstantStarts();
        x.module(0);
        x.module(0);
        x.module(0);
        x.uses(0, 1);
        x.uses(0, 2);
        x.deed(1, 2, 6);
        check.due("start(0, 0)", x.start(0, 0), -15);
        check.faultIs(x, 5, 0, 7, 6);
        check.traceIs(x, 0, 0, 0, 1, 2, 1, 2, 0);
        check.due("the next one was not started", x.state(0, 2), 0);
        check.due("start(0, 0) again", x.start(0, 0), -16);
        check.faultIs(x, 6, 0, 6, 0);
        check.due("start(0, 1)", x.start(0, 1), -16);
        check.faultIs(x, 6, 1, 6, 1);
        check.due("start(0, 2)", x.start(0, 2), 1);
        x.module(0);
        x.uses(3, 1);
        check.due("one that uses a broken one", x.start(0, 3), -15);
        check.faultIs(x, 5, 3, 6, 1);
        check.due("start(1, 2)", x.start(1, 2), 1);
        check.faultIs(x, 0, 0, 0, 0);
    }

    private static void ringThatBreaksAlone(Check check) {
        ConstantStarts x = new ConstantStarts();
        x.module(0);
        x.module(0);
        x.uses(0, 1);
        x.uses(1, 0);
        x.deed(0, 2, 6);
        check.due("start(0, 0)", x.start(0, 0), -15);
        check.due("state(0, 0)", x.state(0, 0), 3);
        check.due("state(0, 1)", x.state(0, 1), 1);
        check.due("start(0, 1)", x.start(0, 1), 1);
        check.due("start(1, 1)", x.start(1, 1), -15);
        check.faultIs(x, 5, 1, 7, 6);
        check.due("state(1, 1)", x.state(1, 1), 3);
    }
}
