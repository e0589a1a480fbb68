public final class P06ConstantTest {
    private static final int MIN = Integer.MIN_VALUE;

    public static void main(String[] args) {
        Check check = new Check("constant");
        badOnes(check);
        whatAKindHasNotIsNotLookedAt(check);
        fortyAtMost(check);
        valuesOfKinds(check);
        productsAndQuotients(check);
        rows(check);
        modules(check);
        check.end();
    }

    private static void bad(Check check, ConstantStarts x, int module, int kind, int a, int b, int c) {
        String call = "constant(" + module + ", " + kind + ", " + a + ", " + b + ", " + c + ")";
        check.due(call, x.constant(module, kind, a, b, c), ConstantStarts.BAD);
    }

    private static void badOnes(Check check) {
        ConstantStarts x = new ConstantStarts();
        x.module(1);
        bad(check, x, 1, 0, 0, 0, 0);
        bad(check, x, -1, 0, 0, 0, 0);
        bad(check, x, 0, -1, 0, 0, 0);
        bad(check, x, 0, 12, 0, 0, 0);
        for (int kind : new int[] {1, 2, 3, 4, 5, 7, 11}) {
            bad(check, x, 0, kind, -1, 0, 0);
            bad(check, x, 0, kind, 40, 0, 0);
        }
        for (int kind : new int[] {2, 3, 7}) {
            bad(check, x, 0, kind, 0, -1, 0);
            bad(check, x, 0, kind, 0, 40, 0);
        }
        bad(check, x, 0, 7, 0, 0, -1);
        bad(check, x, 0, 7, 0, 0, 40);
        for (int kind = 8; kind <= 10; kind++) {
            bad(check, x, 0, kind, -1, 0, 0);
            bad(check, x, 0, kind, 1, 0, 0);
        }
        check.due("told(1) after BAD", x.told(1), 0);
    }

    private static void whatAKindHasNotIsNotLookedAt(Check check) {
        ConstantStarts x = new ConstantStarts();
        x.module(1);
        check.due("kind 0", x.constant(0, 0, MIN, -1, 40), 0);
        check.due("kind 1", x.constant(0, 1, 39, 40, -1), 1);
        check.due("kind 2", x.constant(0, 2, 39, 39, -1), 2);
        check.due("kind 3", x.constant(0, 3, 0, 39, 40), 3);
        check.due("kind 4", x.constant(0, 4, 39, -1, 40), 4);
        check.due("kind 5", x.constant(0, 5, 39, -1, 40), 5);
        check.due("kind 6", x.constant(0, 6, 40, -1, 40), 6);
        check.due("kind 7", x.constant(0, 7, 39, 39, 39), 7);
        check.due("kind 8", x.constant(0, 8, 0, -1, 40), 8);
        check.due("kind 9", x.constant(0, 9, 0, -1, 40), 9);
        check.due("kind 10", x.constant(0, 10, 0, -1, 40), 10);
        check.due("kind 11", x.constant(0, 11, 39, MIN, 40), 11);
        check.due("told(1)", x.told(1), 12);
    }

    private static void fortyAtMost(Check check) {
        ConstantStarts x = new ConstantStarts();
        x.module(0);
        for (int i = 0; i < 40; i++) {
            check.due("constant " + i, x.constant(0, 0, 100 + i, 0, 0), i);
        }
        check.due("one more", x.constant(0, 0, 1, 0, 0), ConstantStarts.FULL);
        bad(check, x, 0, 12, 0, 0, 0);
        check.due("told(1)", x.told(1), 40);
        check.needIs(x, 0, 39, 139);
        check.due("need(0, 40)", x.need(0, 40), ConstantStarts.BAD);
    }

    private static void valuesOfKinds(Check check) {
        ConstantStarts x = new ConstantStarts();
        x.module(0);
        x.constant(0, 0, Integer.MAX_VALUE, 0, 0);
        x.constant(0, 1, 0, 1, 0);
        check.needIs(x, 0, 1, MIN);
        x.constant(0, 6, -7, 0, 0);
        check.due("OWN", x.need(0, 2), -13);
        check.faultIs(x, 3, -7, 3, -7);
        x.constant(0, 5, 2, MIN, 0);
        check.needIs(x, 0, 3, MIN);
        x.constant(0, 5, 1, 8, 0);
        check.needIs(x, 0, 4, MIN);
        x.constant(0, 0, 0, 0, 0);
        x.constant(0, 7, 0, 1, 2);
        check.needIs(x, 0, 6, MIN);
        x.constant(0, 7, 5, 2, 0);
        check.needIs(x, 0, 7, Integer.MAX_VALUE);
        x.constant(0, 7, 2, 0, 0);
        check.due("a choice by what fails", x.need(0, 8), -13);
        x.constant(0, 7, 1, 39, 0);
        check.due("a choice of what is missing", x.need(0, 9), -18);
        check.faultIs(x, 8, 39, 8, 39);
        x.constant(0, 5, 39, 21, 0);
        check.needIs(x, 0, 10, 21);
        x.constant(0, 7, 5, 0, 10);
        check.needIs(x, 0, 11, 21);
    }

    private static void productsAndQuotients(Check check) {
        ConstantStarts x = new ConstantStarts();
        x.module(0);
        int[] numbers = {65537, -7, 2, 0, MIN, -1};
        for (int n : numbers) {
            x.constant(0, 0, n, 0, 0);
        }
        x.constant(0, 2, 0, 0, 0);
        check.needIs(x, 0, 6, 65537 * 65537);
        x.constant(0, 2, 1, 2, 0);
        check.needIs(x, 0, 7, -14);
        x.constant(0, 3, 1, 2, 0);
        check.needIs(x, 0, 8, -3);
        x.constant(0, 3, 4, 5, 0);
        check.needIs(x, 0, 9, MIN);
        x.constant(0, 3, 2, 1, 0);
        check.needIs(x, 0, 10, 0);
        x.constant(0, 3, 1, 3, 0);
        check.due("by 0", x.need(0, 11), -11);
        check.faultIs(x, 1, 0, 1, 0);
        x.constant(0, 6, 5, 0, 0);
        x.constant(0, 6, 6, 0, 0);
        x.constant(0, 2, 12, 13, 0);
        check.due("the left one fails first", x.need(0, 14), -13);
        check.faultIs(x, 3, 5, 3, 5);
        check.due("the right one is not needed then", x.kept(0, 13), 0);
        x.constant(0, 3, 12, 3, 0);
        check.due("a fault by 0", x.need(0, 15), -13);
        x.constant(0, 3, 3, 13, 0);
        check.due("0 by a fault", x.need(0, 16), -13);
        check.faultIs(x, 3, 6, 3, 6);
    }

    private static void rows(Check check) {
        ConstantStarts x = new ConstantStarts();
        x.module(2);
        x.module(3);
        x.item(0, 1, 50);
        x.item(1, 1, 60);
        x.item(1, 2, 70);
        x.constant(1, 0, 1, 0, 0);
        x.constant(1, 0, 2, 0, 0);
        x.constant(1, 0, -1, 0, 0);
        x.constant(0, 4, 0, 0, 0);
        check.needIs(x, 0, 3, 50);
        x.constant(1, 4, 1, 0, 0);
        check.needIs(x, 0, 4, 70);
        x.constant(0, 4, 1, 0, 0);
        check.due("item 2 of 2", x.need(0, 5), -12);
        check.faultIs(x, 2, 0, 2, 0);
        x.constant(0, 4, 2, 0, 0);
        check.due("item -1", x.need(0, 6), -12);
        x.constant(0, 11, 2, 1, 0);
        check.needIs(x, 0, 7, -1);
        check.due("row(0, 0, 1)", x.row(0, 0, 1), -1);
        check.due("row(0, 1, 1)", x.row(0, 1, 1), 60);
        check.due("row(1, 0, 1)", x.row(1, 0, 1), 50);
        check.needIs(x, 0, 3, 50);
        x.constant(0, 4, 0, 0, 0);
        check.needIs(x, 0, 8, -1);
        x.constant(0, 11, 0, 2, 0);
        check.due("into item 2 of 2", x.need(0, 9), -12);
        x.constant(0, 11, 0, -1, 0);
        check.due("into item -1", x.need(0, 10), -12);
        x.constant(1, 6, 4, 0, 0);
        x.constant(0, 11, 11, 9, 0);
        check.due("a fault into no item", x.need(0, 12), -13);
        x.constant(0, 11, 11, 0, 0);
        check.due("a fault into an item", x.need(0, 13), -13);
        check.due("row(0, 0, 0)", x.row(0, 0, 0), 0);
    }

    private static void modules(Check check) {
        ConstantStarts x = new ConstantStarts();
        x.module(0);
        x.module(0);
        x.module(0);
        x.deed(1, 2, 3);
        x.constant(0, 8, 2, 0, 0);
        check.needIs(x, 0, 0, 0);
        check.due("8 starts nothing", x.state(0, 2), 0);
        x.constant(0, 10, 2, 0, 0);
        check.needIs(x, 0, 1, 1);
        check.due("10 starts it", x.state(0, 2), 1);
        check.needIs(x, 0, 0, 0);
        x.constant(0, 8, 2, 0, 0);
        check.needIs(x, 0, 2, 1);
        x.constant(0, 10, 1, 0, 0);
        check.due("10 of one that fails", x.need(0, 3), -15);
        check.faultIs(x, 5, 1, 7, 3);
        x.constant(0, 8, 1, 0, 0);
        check.needIs(x, 0, 4, 3);
        x.constant(0, 10, 1, 0, 0);
        check.due("10 of a broken one", x.need(0, 5), -16);
        check.due("the START was kept", x.need(0, 3), -15);
        check.faultIs(x, 5, 1, 7, 3);
        x.constant(2, 9, 0, 0, 0);
        check.needIs(x, 0, 6, 6);
        x.constant(0, 9, 1, 0, 0);
        check.needIs(x, 0, 7, 0);
        x.constant(0, 8, 0, 0, 0);
        x.deed(0, 0, 8);
        check.needIs(x, 1, 8, 2);
        check.needIs(x, 0, 8, 1);
    }
}
