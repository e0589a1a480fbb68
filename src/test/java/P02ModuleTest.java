public final class P02ModuleTest {
    public static void main(String[] args) {
        Check check = new Check("module");
        ConstantStarts x = new ConstantStarts();
        check.due("module(-1)", x.module(-1), ConstantStarts.BAD);
        check.due("module(9)", x.module(9), ConstantStarts.BAD);
        check.due("module(MIN)", x.module(Integer.MIN_VALUE), ConstantStarts.BAD);
        check.due("module(MAX)", x.module(Integer.MAX_VALUE), ConstantStarts.BAD);
        check.due("told(0) after BAD", x.told(0), 0);
        for (int i = 0; i < 12; i++) {
            int n = i % 9;
            check.due("module(" + n + ")", x.module(n), i);
            check.due("told(0)", x.told(0), i + 1);
            check.due("row at the end", x.row(0, i, n), ConstantStarts.NONE);
            if (n > 0) {
                check.due("row, last item", x.row(0, i, n - 1), 0);
            }
            check.due("state", x.state(2, i), 0);
        }
        check.due("module(3) when full", x.module(3), ConstantStarts.FULL);
        check.due("module(9) when full", x.module(9), ConstantStarts.BAD);
        check.due("told(0) after FULL", x.told(0), 12);
        check.due("state(0, 12)", x.state(0, 12), ConstantStarts.BAD);
        check.end();
    }
}
