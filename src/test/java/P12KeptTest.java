public final class P12KeptTest {
    public static void main(String[] args) {
        Check check = new Check("kept");
        ConstantStarts x = new ConstantStarts();
        x.module(0);
        x.module(0);
        x.module(0);
        x.deed(1, 2, 5);
        x.constant(0, 0, 0, 0, 0);
        x.constant(0, 3, 0, 0, 0);
        x.constant(0, 4, 0, 0, 0);
        x.constant(0, 6, 1, 0, 0);
        x.constant(0, 1, 4, 0, 0);
        x.constant(0, 10, 1, 0, 0);
        x.constant(0, 10, 1, 0, 0);
        x.constant(0, 1, 39, 0, 0);
        x.constant(1, 0, 9, 0, 0);
        int[] want = {1, 11, 12, 13, 14, 15, 16, 18, 0};
        for (int i = 0; i < want.length; i++) {
            check.due("kept before", x.kept(1, i), 0);
            x.need(1, i);
            check.due("kept(1, " + i + ")", x.kept(1, i), want[i]);
            check.due("kept(0, " + i + ")", x.kept(0, i), 0);
        }
        x.forget(1);
        for (int i = 0; i < want.length; i++) {
            check.due("kept after forget", x.kept(1, i), 0);
        }
        check.due("kept(-1, 0)", x.kept(-1, 0), ConstantStarts.BAD);
        check.due("kept(3, 0)", x.kept(3, 0), ConstantStarts.BAD);
        check.due("kept(0, -1)", x.kept(0, -1), ConstantStarts.BAD);
        check.due("kept(0, 9)", x.kept(0, 9), ConstantStarts.BAD);
        check.end();
    }
}
