public final class P11StateTest {
    public static void main(String[] args) {
        Check check = new Check("state");
        ConstantStarts x = new ConstantStarts();
        for (int i = 0; i < 12; i++) {
            x.module(0);
        }
        x.deed(11, 2, 1);
        x.constant(4, 0, 1, 0, 0);
        x.start(0, 0);
        x.start(0, 11);
        x.need(2, 0);
        for (int loader = 0; loader < 3; loader++) {
            for (int module = 0; module < 12; module++) {
                int want = 0;
                if (loader == 0 && module == 0 || loader == 2 && module == 4) {
                    want = 1;
                } else if (loader == 0 && module == 11) {
                    want = 3;
                }
                check.due("state(" + loader + ", " + module + ")", x.state(loader, module), want);
            }
        }
        check.due("state(-1, 0)", x.state(-1, 0), ConstantStarts.BAD);
        check.due("state(3, 0)", x.state(3, 0), ConstantStarts.BAD);
        check.due("state(0, -1)", x.state(0, -1), ConstantStarts.BAD);
        check.due("state(0, 12)", x.state(0, 12), ConstantStarts.BAD);
        check.end();
    }
}
