public final class P01NewObjectTest {
    public static void main(String[] args) {
        Check check = new Check("new object");
        ConstantStarts x = new ConstantStarts();
        for (int what = 0; what <= 3; what++) {
            check.due("told(" + what + ")", x.told(what), 0);
            check.due("fault(" + what + ")", x.fault(what), 0);
        }
        check.due("value()", x.value(), 0);
        check.due("trace(0, 0)", x.trace(0, 0), ConstantStarts.NONE);
        for (int loader = 0; loader < 3; loader++) {
            check.due("need(.., 0)", x.need(loader, 0), ConstantStarts.BAD);
            check.due("start(.., 0)", x.start(loader, 0), ConstantStarts.BAD);
            check.due("state(.., 0)", x.state(loader, 0), ConstantStarts.BAD);
            check.due("kept(.., 0)", x.kept(loader, 0), ConstantStarts.BAD);
            check.due("row(.., 0, 0)", x.row(loader, 0, 0), ConstantStarts.BAD);
            check.due("forget(..)", x.forget(loader), 0);
        }
        check.due("item(0, 0, 1)", x.item(0, 0, 1), ConstantStarts.BAD);
        check.due("uses(0, 0)", x.uses(0, 0), ConstantStarts.BAD);
        check.due("deed(0, 2, 1)", x.deed(0, 2, 1), ConstantStarts.BAD);
        check.due("constant(0, 0, 1, 0, 0)", x.constant(0, 0, 1, 0, 0), ConstantStarts.BAD);
        check.due("alike(1)", x.alike(1), 0);
        oneObjectIsNotAnother(check);
        check.end();
    }

    private static void oneObjectIsNotAnother(Check check) {
        ConstantStarts used = new ConstantStarts();
        used.module(1);
        used.constant(0, 0, 5, 0, 0);
        used.need(0, 0);
        ConstantStarts fresh = new ConstantStarts();
        check.due("told(0) of another object", fresh.told(0), 0);
        check.due("told(1) of another object", fresh.told(1), 0);
        check.due("told(3) of another object", fresh.told(3), 0);
        check.due("value() of another object", fresh.value(), 0);
    }
}
