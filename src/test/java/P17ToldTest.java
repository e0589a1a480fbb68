public final class P17ToldTest {
    public static void main(String[] args) {
        Check check = new Check("told");
        ConstantStarts x = new ConstantStarts();
        check.due("told(-1)", x.told(-1), ConstantStarts.BAD);
        check.due("told(4)", x.told(4), ConstantStarts.BAD);
        x.module(1);
        x.module(1);
        x.constant(0, 0, 2, 0, 0);
        x.constant(0, 1, 0, 1, 0);
        x.constant(1, 6, 1, 0, 0);
        x.deed(1, 0, 1);
        check.due("told(0)", x.told(0), 2);
        check.due("told(1)", x.told(1), 3);
        check.due("told(2)", x.told(2), 0);
        check.due("told(3)", x.told(3), 0);
        x.need(0, 1);
        check.due("told(2)", x.told(2), 6);
        check.due("told(3) after two", x.told(3), 2);
        x.need(0, 1);
        check.due("told(2)", x.told(2), 0);
        check.due("told(3) after none", x.told(3), 2);
        x.start(1, 1);
        check.due("told(3) after a start with two", x.told(3), 4);
        x.need(1, 2);
        check.due("told(3) after a fault", x.told(3), 5);
        x.need(2, 0);
        check.due("told(3) after one in loader 2", x.told(3), 6);
        x.alike(4);
        check.due("told(3) after alike", x.told(3), 6);
        check.due("told(2) after alike", x.told(2), 4);
        x.forget(0);
        check.due("told(3) after forget", x.told(3), 6);
        x.need(0, 1);
        check.due("told(3) after two anew", x.told(3), 8);
        check.end();
    }
}
