public final class P07NeedTest {
    public static void main(String[] args) {
        Check check = new Check("need");
        badOnes(check);
        workedAtMostOnceInEachLoader(check);
        rings(check);
        moduleStartsFirst(check);
        brokenModuleHidesWhatWasWorked(check);
        startFaultOfAnotherModuleIsKept(check);
        namedBeforeItIsThere(check);
        check.end();
    }

    private static void badOnes(Check check) {
        ConstantStarts x = new ConstantStarts();
        x.module(0);
        x.constant(0, 6, 4, 0, 0);
        check.due("need(0, 0)", x.need(0, 0), -13);
        check.due("need(-1, 0)", x.need(-1, 0), ConstantStarts.BAD);
        check.due("need(3, 0)", x.need(3, 0), ConstantStarts.BAD);
        check.due("need(0, -1)", x.need(0, -1), ConstantStarts.BAD);
        check.due("need(0, 1)", x.need(0, 1), ConstantStarts.BAD);
        check.due("need(0, MAX)", x.need(0, Integer.MAX_VALUE), ConstantStarts.BAD);
        // A call that is refused needs nothing, so what the latest one told stays.
        check.faultIs(x, 3, 4, 3, 4);
        check.traceIs(x, 0, 0, 1, 0, 3, 0, 5, 0);
    }

    private static void workedAtMostOnceInEachLoader(Check check) {
        ConstantStarts x = new ConstantStarts();
        x.module(1);
        x.constant(0, 0, 0, 0, 0);
        x.constant(0, 4, 0, 0, 0);
        x.constant(0, 0, 9, 0, 0);
        x.constant(0, 11, 2, 0, 0);
        check.needIs(x, 0, 1, 0);
        check.needIs(x, 0, 3, 9);
        check.needIs(x, 0, 1, 0);
        check.traceIs(x);
        check.needIs(x, 1, 3, 9);
        check.needIs(x, 1, 1, 9);
        check.needIs(x, 2, 1, 0);
    }

    private static void rings(Check check) {
        ConstantStarts x = new ConstantStarts();
        x.module(0);
        x.constant(0, 1, 1, 1, 0);
        x.constant(0, 1, 2, 1, 0);
        x.constant(0, 5, 3, 50, 0);
        x.constant(0, 1, 1, 1, 0);
        check.needIs(x, 0, 0, 52);
        check.traceIs(x, 0, 0, 1, 0, 3, 0, 3, 1, 3, 2, 3, 3, 5, 3, 4, 2, 4, 1, 4, 0);
        check.due("the one in the ring failed", x.need(0, 3), -14);
        check.faultIs(x, 4, 1, 4, 1);
        check.due("from there", x.need(1, 3), 1);
        check.due("value()", x.value(), 52);
        check.needIs(x, 1, 2, 50);
        x.constant(0, 2, 4, 0, 0);
        check.due("itself", x.need(2, 4), -14);
        check.faultIs(x, 4, 4, 4, 4);
        check.due("kept as that", x.kept(2, 4), 14);
        check.due("nothing to its right was needed", x.kept(2, 0), 0);
    }

    private static void moduleStartsFirst(Check check) {
        ConstantStarts x = new ConstantStarts();
        x.module(0);
        x.constant(0, 0, 3, 0, 0);
        x.constant(0, 1, 0, 4, 0);
        x.deed(0, 0, 1);
        check.needIs(x, 0, 0, 3);
        check.traceIs(x, 0, 0, 3, 1, 3, 0, 4, 0, 4, 1, 1, 0);
    }

    private static void brokenModuleHidesWhatWasWorked(Check check) {
        ConstantStarts x = new ConstantStarts();
        x.module(0);
        x.constant(0, 0, 3, 0, 0);
        x.constant(0, 0, 4, 0, 0);
        x.deed(0, 0, 0);
        x.deed(0, 2, 8);
        check.due("need(0, 0)", x.need(0, 0), -15);
        check.faultIs(x, 5, 0, 7, 8);
        check.due("kept(0, 0)", x.kept(0, 0), 1);
        check.due("need(0, 0) again", x.need(0, 0), -16);
        check.faultIs(x, 6, 0, 6, 0);
        check.traceIs(x);
        check.due("need(0, 1)", x.need(0, 1), -16);
        check.due("kept(0, 1)", x.kept(0, 1), 0);
    }

    private static void startFaultOfAnotherModuleIsKept(Check check) {
        ConstantStarts x = new ConstantStarts();
        x.module(0);
        x.module(0);
        x.deed(1, 2, 8);
        x.constant(0, 1, 1, 0, 0);
        x.constant(1, 0, 5, 0, 0);
        check.due("need(0, 0)", x.need(0, 0), -15);
        check.due("kept(0, 0)", x.kept(0, 0), 15);
        check.due("kept(0, 1)", x.kept(0, 1), 0);
        check.due("need(0, 1)", x.need(0, 1), -16);
        check.due("need(0, 0) again", x.need(0, 0), -15);
        check.faultIs(x, 5, 1, 7, 8);
        check.traceIs(x);
    }

    private static void namedBeforeItIsThere(Check check) {
        ConstantStarts x = new ConstantStarts();
        x.module(0);
        x.constant(0, 1, 1, 5, 0);
        check.due("need(0, 0)", x.need(0, 0), -18);
        check.faultIs(x, 8, 1, 8, 1);
        x.constant(0, 0, 2, 0, 0);
        check.due("kept in loader 0", x.need(0, 0), -18);
        check.needIs(x, 1, 0, 7);
    }
}
