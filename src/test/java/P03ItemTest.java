public final class P03ItemTest {
    public static void main(String[] args) {
        Check check = new Check("item");
        ConstantStarts x = new ConstantStarts();
        x.module(8);
        x.module(0);
        check.due("item(0, 0, 5)", x.item(0, 0, 5), 1);
        check.due("item(0, 7, MIN)", x.item(0, 7, Integer.MIN_VALUE), 1);
        check.due("item(0, 8, 1)", x.item(0, 8, 1), ConstantStarts.BAD);
        check.due("item(0, -1, 1)", x.item(0, -1, 1), ConstantStarts.BAD);
        check.due("item(1, 0, 1)", x.item(1, 0, 1), ConstantStarts.BAD);
        check.due("item(2, 0, 1)", x.item(2, 0, 1), ConstantStarts.BAD);
        check.due("item(-1, 0, 1)", x.item(-1, 0, 1), ConstantStarts.BAD);
        check.due("row(0, 0, 0)", x.row(0, 0, 0), 5);
        check.due("row(0, 0, 7)", x.row(0, 0, 7), Integer.MIN_VALUE);
        check.due("row(0, 0, 3)", x.row(0, 0, 3), 0);

        check.due("start(1, 0)", x.start(1, 0), 1);
        check.due("item(0, 0, 6)", x.item(0, 0, 6), 1);
        check.due("row where it started before", x.row(1, 0, 0), 5);
        check.due("row where it has not started", x.row(0, 0, 0), 6);
        check.due("start(2, 0)", x.start(2, 0), 1);
        check.due("row where it started later", x.row(2, 0, 0), 6);
        check.due("start(1, 0) again", x.start(1, 0), 1);
        check.due("row after that", x.row(1, 0, 0), 5);
        brokenModuleKeepsItsRow(check);
        check.end();
    }

    private static void brokenModuleKeepsItsRow(Check check) {
        ConstantStarts x = new ConstantStarts();
        x.module(1);
        x.item(0, 0, 3);
        x.deed(0, 2, 9);
        check.due("start(0, 0)", x.start(0, 0), -15);
        x.item(0, 0, 4);
        check.due("row of a broken one", x.row(0, 0, 0), 3);
        check.due("row elsewhere", x.row(1, 0, 0), 4);
        check.due("forget(0)", x.forget(0), 1);
        check.due("row after forget", x.row(0, 0, 0), 4);
    }
}
