public final class P13RowTest {
    public static void main(String[] args) {
        Check check = new Check("row");
        ConstantStarts x = new ConstantStarts();
        x.module(8);
        x.module(0);
        for (int i = 0; i < 8; i++) {
            x.item(0, i, 10 + i);
        }
        for (int i = 0; i < 8; i++) {
            check.due("row as told", x.row(i % 3, 0, i), 10 + i);
        }
        check.due("row(0, 0, -1)", x.row(0, 0, -1), ConstantStarts.NONE);
        check.due("row(0, 0, 8)", x.row(0, 0, 8), ConstantStarts.NONE);
        check.due("row(0, 0, MAX)", x.row(0, 0, Integer.MAX_VALUE), ConstantStarts.NONE);
        check.due("row(0, 1, 0)", x.row(0, 1, 0), ConstantStarts.NONE);
        check.due("row(-1, 0, 0)", x.row(-1, 0, 0), ConstantStarts.BAD);
        check.due("row(3, 0, 0)", x.row(3, 0, 0), ConstantStarts.BAD);
        check.due("row(0, 2, 0)", x.row(0, 2, 0), ConstantStarts.BAD);
        check.due("row(0, -1, 9)", x.row(0, -1, 9), ConstantStarts.BAD);

        x.constant(0, 0, 77, 0, 0);
        x.constant(0, 11, 0, 7, 0);
        check.needIs(x, 2, 1, 77);
        check.due("row(2, 0, 7)", x.row(2, 0, 7), 77);
        check.due("row(2, 0, 6)", x.row(2, 0, 6), 16);
        check.due("row(0, 0, 7)", x.row(0, 0, 7), 17);
        x.forget(2);
        check.due("row after forget", x.row(2, 0, 7), 17);
        check.due("start(2, 0)", x.start(2, 0), 1);
        check.due("row after a new start", x.row(2, 0, 7), 17);
        check.end();
    }
}
