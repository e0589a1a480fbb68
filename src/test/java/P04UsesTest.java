public final class P04UsesTest {
    public static void main(String[] args) {
        Check check = new Check("uses");
        answers(check);
        startsInOrderBeforeDeeds(check);
        itselfAndARing(check);
        check.end();
    }

    private static void answers(Check check) {
        ConstantStarts x = new ConstantStarts();
        for (int i = 0; i < 8; i++) {
            x.module(0);
        }
        check.due("uses(8, 0)", x.uses(8, 0), ConstantStarts.BAD);
        check.due("uses(0, 8)", x.uses(0, 8), ConstantStarts.BAD);
        check.due("uses(-1, 0)", x.uses(-1, 0), ConstantStarts.BAD);
        check.due("uses(0, -1)", x.uses(0, -1), ConstantStarts.BAD);
        for (int i = 1; i <= 6; i++) {
            check.due("uses(0, " + i + ")", x.uses(0, i), i);
        }
        check.due("uses(0, 7)", x.uses(0, 7), ConstantStarts.FULL);
        check.due("uses(0, 8) when full", x.uses(0, 8), ConstantStarts.BAD);
        check.due("uses(1, 7)", x.uses(1, 7), 1);
        check.due("start(0, 0)", x.start(0, 0), 1);
        check.due("state(0, 6)", x.state(0, 6), 1);
        check.due("state(0, 7)", x.state(0, 7), 1);
        x.forget(0);
        check.due("start(0, 2)", x.start(0, 2), 1);
        check.due("state(0, 7)", x.state(0, 7), 0);
    }

    private static void startsInOrderBeforeDeeds(Check check) {
        ConstantStarts x = new ConstantStarts();
        for (int i = 0; i < 4; i++) {
            x.module(0);
        }
        x.deed(0, 1, 3);
        x.uses(0, 2);
        x.uses(0, 1);
        x.uses(0, 2);
        check.due("start(0, 0)", x.start(0, 0), 1);
        check.traceIs(x, 0, 0, 0, 2, 1, 2, 0, 1, 1, 1, 0, 3, 1, 3, 1, 0);
    }

    private static void itselfAndARing(Check check) {
        ConstantStarts x = new ConstantStarts();
        x.module(0);
        x.module(0);
        check.due("uses(0, 0)", x.uses(0, 0), 1);
        check.due("uses(0, 1)", x.uses(0, 1), 2);
        check.due("uses(1, 0)", x.uses(1, 0), 1);
        check.due("start(0, 0)", x.start(0, 0), 1);
        check.traceIs(x, 0, 0, 0, 1, 1, 1, 1, 0);
    }
}
