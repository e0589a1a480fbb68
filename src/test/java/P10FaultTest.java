public final class P10FaultTest {
    public static void main(String[] args) {
        Check check = new Check("fault");
        ConstantStarts x = new ConstantStarts();
        check.due("fault(-1)", x.fault(-1), ConstantStarts.BAD);
        check.due("fault(4)", x.fault(4), ConstantStarts.BAD);
        check.faultIs(x, 0, 0, 0, 0);
        causesGoToTheRoot(check);
        rescuedFaultIsNotTold(check);
        latestCallAlone(check);
        check.end();
    }

    private static void causesGoToTheRoot(Check check) {
        ConstantStarts x = new ConstantStarts();
        for (int i = 0; i < 4; i++) {
            x.module(0);
        }
        x.uses(0, 1);
        x.deed(1, 0, 0);
        x.constant(2, 10, 3, 0, 0);
        x.deed(3, 0, 1);
        x.constant(3, 6, -99, 0, 0);
        check.due("start(0, 0)", x.start(0, 0), -15);
        check.faultIs(x, 5, 0, 3, -99);
        check.due("need(0, 0)", x.need(0, 0), -15);
        check.faultIs(x, 5, 3, 3, -99);
        check.due("need(0, 1)", x.need(0, 1), -16);
        check.faultIs(x, 6, 3, 6, 3);
        check.due("kept(0, 1)", x.kept(0, 1), 13);

        x.constant(1, 0, 0, 0, 0);
        x.constant(2, 1, 2, 0, 0);
        check.due("need(0, 3)", x.need(0, 3), -16);
        check.faultIs(x, 6, 1, 6, 1);
        check.due("kept(0, 3)", x.kept(0, 3), 16);
    }

    private static void rescuedFaultIsNotTold(Check check) {
        ConstantStarts x = new ConstantStarts();
        x.module(0);
        x.module(0);
        x.deed(1, 2, 3);
        x.constant(1, 0, 1, 0, 0);
        x.constant(0, 5, 0, 4, 0);
        x.deed(0, 0, 1);
        check.due("start(0, 0)", x.start(0, 0), 1);
        check.faultIs(x, 0, 0, 0, 0);
        check.needIs(x, 0, 1, 4);
        check.faultIs(x, 0, 0, 0, 0);
        check.due("state(0, 1)", x.state(0, 1), 3);
    }

    private static void latestCallAlone(Check check) {
        ConstantStarts x = new ConstantStarts();
        x.module(0);
        x.constant(0, 6, 5, 0, 0);
        x.constant(0, 6, 6, 0, 0);
        check.due("need(0, 0)", x.need(0, 0), -13);
        check.due("need(1, 1)", x.need(1, 1), -13);
        check.faultIs(x, 3, 6, 3, 6);
        x.alike(2);
        x.forget(0);
        x.forget(1);
        check.faultIs(x, 3, 6, 3, 6);
        check.due("start(0, 0)", x.start(0, 0), 1);
        check.faultIs(x, 0, 0, 0, 0);
    }
}
