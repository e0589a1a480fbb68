/** The longest chains that the limits allow, in a thread with a small stack. */
public final class DeepChainTest {
    private final Check check = new Check("deep chains");
    private boolean finished = false;

    public static void main(String[] args) throws InterruptedException {
        DeepChainTest test = new DeepChainTest();
        Thread small = new Thread(null, test::run, "small stack", 256 * 1024);
        small.start();
        small.join();
        test.check.holds("the thread came to its end", test.finished);
        test.check.end();
    }

    private void run() {
        chainThatEnds();
        chainThatIsARing();
        chainOfProducts();
        startsBetweenWorkings();
        ringOfForty();
        finished = true;
    }

    /**
     * Each module's start needs a constant of the next module, so that twelve starts stand open; the
     * last one needs constant 12, and from there all forty stand open: 12 .. 39, 0 .. 11. What
     * constant 11 is remains to be said.
     */
    private static ConstantStarts deepChain(int lastKind, int lastA) {
        ConstantStarts x = new ConstantStarts();
        for (int i = 0; i < 12; i++) {
            x.module(0);
            x.deed(i, 0, i + 1);
        }
        for (int i = 0; i < 40; i++) {
            boolean last = i == 11;
            x.constant(Math.min(i, 11), last ? lastKind : 1, last ? lastA : (i + 1) % 40, 1, 0);
        }
        return x;
    }

    private void chainThatEnds() {
        ConstantStarts x = deepChain(0, 5);
        check.needIs(x, 0, 0, 16);
        check.due("told(2)", x.told(2), 104);
        check.due("told(3)", x.told(3), 40);
        check.needIs(x, 0, 11, 5);
        check.needIs(x, 0, 39, 17);
        check.needIs(x, 0, 12, 44);
        check.due("alike(3)", x.alike(3), 0);
    }

    private void chainThatIsARing() {
        ConstantStarts x = deepChain(1, 12);
        check.due("need(0, 0)", x.need(0, 0), -15);
        check.faultIs(x, 5, 0, 4, 12);
        check.due("told(2)", x.told(2), 104);
        check.due("told(3)", x.told(3), 40);
        for (int i = 0; i < 12; i++) {
            check.due("state(0, " + i + ")", x.state(0, i), 3);
        }
        for (int i = 0; i < 40; i++) {
            check.due("kept(0, " + i + ")", x.kept(0, i), 14);
        }
        check.due("start(1, 0)", x.start(1, 0), -15);
        check.faultIs(x, 5, 0, 4, 12);
    }

    /** A product stands open in one method more than a sum: no chain has more calls open at once. */
    private void chainOfProducts() {
        ConstantStarts x = new ConstantStarts();
        for (int i = 0; i < 12; i++) {
            x.module(0);
            x.deed(i, 0, i + 1);
        }
        for (int i = 0; i < 40; i++) {
            x.constant(Math.min(i, 11), i == 11 ? 5 : 2, i == 11 ? 12 : (i + 1) % 40, i == 11 ? 3 : 11, 0);
        }
        check.needIs(x, 0, 0, 3 * 3 * 3 * 3 * 3 * 3 * 3 * 3 * 3 * 3 * 3 * 3);
        check.due("told(2)", x.told(2), 104);
        check.due("told(3)", x.told(3), 40);
        check.needIs(x, 0, 10, 9);
        check.needIs(x, 0, 39, 1594323);
    }

    /** Each start works a constant that starts the next module. */
    private void startsBetweenWorkings() {
        ConstantStarts x = new ConstantStarts();
        for (int i = 0; i < 12; i++) {
            x.module(0);
        }
        for (int i = 0; i < 12; i++) {
            x.constant(i, 10, Math.min(i + 1, 11), 0, 0);
            x.deed(i, 0, i);
        }
        check.needIs(x, 1, 0, 1);
        check.due("told(2)", x.told(2), 48);
        for (int i = 0; i < 12; i++) {
            check.due("module begins", x.trace(2 * i, 1), i);
            check.due("constant begins", x.trace(2 * i + 1, 1), i);
        }
    }

    private void ringOfForty() {
        ConstantStarts x = new ConstantStarts();
        x.module(0);
        for (int i = 0; i < 40; i++) {
            x.constant(0, 7, (i + 1) % 40, 0, 0);
        }
        check.due("need(0, 17)", x.need(0, 17), -14);
        check.faultIs(x, 4, 17, 4, 17);
        for (int i = 0; i < 40; i++) {
            check.due("kept(0, " + i + ")", x.kept(0, i), 14);
        }
    }
}
