public final class P08ValueTest {
    public static void main(String[] args) {
        Check check = new Check("value");
        ConstantStarts x = new ConstantStarts();
        x.module(0);
        x.constant(0, 6, 4, 0, 0);
        x.constant(0, 0, 12, 0, 0);
        x.constant(0, 0, -13, 0, 0);
        check.due("value() before one", x.value(), 0);
        x.need(0, 0);
        check.due("value() after a fault alone", x.value(), 0);
        x.need(0, 1);
        check.due("value()", x.value(), 12);
        x.need(0, 0);
        check.due("value() after a fault", x.value(), 12);
        x.need(0, 7);
        check.due("value() after BAD", x.value(), 12);
        x.start(1, 0);
        check.due("value() after start", x.value(), 12);
        x.alike(5);
        check.due("value() after alike", x.value(), 12);
        x.forget(0);
        check.due("value() after forget", x.value(), 12);
        x.need(2, 2);
        check.due("value() in another loader", x.value(), -13);
        check.end();
    }
}
