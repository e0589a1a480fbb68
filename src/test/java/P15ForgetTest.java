public final class P15ForgetTest {
    public static void main(String[] args) {
        Check check = new Check("forget");
        ConstantStarts x = new ConstantStarts();
        x.module(1);
        x.module(0);
        x.module(0);
        x.deed(1, 2, 5);
        x.constant(0, 0, 3, 0, 0);
        x.constant(0, 11, 0, 0, 0);
        check.due("forget(-1)", x.forget(-1), ConstantStarts.BAD);
        check.due("forget(3)", x.forget(3), ConstantStarts.BAD);
        check.due("forget(0) of nothing", x.forget(0), 0);
        for (int loader = 0; loader < 3; loader++) {
            x.need(loader, 1);
            x.start(loader, 1);
        }
        check.due("forget(1)", x.forget(1), 2);
        check.due("state(1, 0)", x.state(1, 0), 0);
        check.due("state(1, 1)", x.state(1, 1), 0);
        check.due("kept(1, 0)", x.kept(1, 0), 0);
        check.due("row(1, 0, 0)", x.row(1, 0, 0), 0);
        check.due("forget(1) again", x.forget(1), 0);
        for (int loader = 0; loader < 3; loader += 2) {
            check.due("state elsewhere", x.state(loader, 0), 1);
            check.due("state elsewhere", x.state(loader, 1), 3);
            check.due("kept elsewhere", x.kept(loader, 0), 1);
            check.due("row elsewhere", x.row(loader, 0, 0), 3);
        }
        check.due("a broken one breaks anew", x.start(1, 1), -15);
        check.needIs(x, 1, 0, 3);
        check.traceIs(x, 0, 0, 1, 0, 3, 0, 4, 0);
        check.due("modules stay told", x.told(0), 3);
        check.due("constants stay told", x.told(1), 2);
        check.end();
    }
}
