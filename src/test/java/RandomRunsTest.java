import java.util.Random;

/** Runs of 512 calls from fixed seeds: every answer must be that of the plain model. */
public final class RandomRunsTest {
    private static final int RUNS = 8000;
    private static final int CALLS = 512;
    private static final int[] EXTREMES = {Integer.MIN_VALUE, Integer.MAX_VALUE, -2, -1, 0, 1, 8, 9, 40, 41};

    private final Check check = new Check("random runs");
    private final Random random;
    private final ConstantStarts x = new ConstantStarts();
    private final PlainModel model = new PlainModel();
    private final int faultWeight;
    private int left = CALLS;
    private int wrong = 0;

    private RandomRunsTest(int seed) {
        random = new Random(seed);
        faultWeight = seed % 4;
    }

    public static void main(String[] args) {
        int wrong = 0;
        for (int seed = 0; seed < RUNS && wrong < 10; seed++) {
            wrong += new RandomRunsTest(seed).run(seed);
        }
        System.out.println("random runs: " + RUNS + " runs of " + CALLS + " calls, " + wrong + " wrong");
        if (wrong != 0) {
            System.exit(1);
        }
    }

    private int run(int seed) {
        int telling = 20 + random.nextInt(120);
        while (left > 0 && wrong == 0) {
            int done = CALLS - left;
            String at = "seed " + seed + ", from call " + done + ": ";
            if (done < telling ? random.nextInt(10) < 8 : random.nextInt(10) < 2) {
                tell(at);
            } else {
                ask(at);
            }
        }
        return wrong;
    }

    private int among(int size) {
        if (random.nextInt(60) == 0) {
            return EXTREMES[random.nextInt(EXTREMES.length)];
        }
        return size <= 0 ? 0 : random.nextInt(size);
    }

    private int moduleNumber() {
        return among(model.told(0));
    }

    private int constantNumber() {
        return among(random.nextInt(12) == 0 ? 40 : model.told(1) + 2);
    }

    private int number() {
        return random.nextInt(8) == 0 ? random.nextInt() : random.nextInt(7) - 2;
    }

    private void same(String call, int got, int want) {
        left--;
        if (got != want) {
            wrong++;
        }
        check.due(call, got, want);
    }

    private void tell(String at) {
        int m = moduleNumber();
        switch (model.told(0) == 0 ? 0 : random.nextInt(12)) {
            case 0 -> {
                int n = among(9);
                same(at + "module(" + n + ")", x.module(n), model.module(n));
            }
            case 1 -> {
                int i = among(5);
                int v = number();
                same(at + "item(" + m + ", " + i + ", " + v + ")", x.item(m, i, v), model.item(m, i, v));
            }
            case 2 -> {
                int other = moduleNumber();
                same(at + "uses(" + m + ", " + other + ")", x.uses(m, other), model.uses(m, other));
            }
            case 3 -> tellDeed(at, m);
            default -> tellConstant(at, m);
        }
    }

    private void tellDeed(String at, int m) {
        int kind = random.nextInt(8) < 8 - faultWeight ? random.nextInt(2) : among(3);
        int n = kind == 0 ? constantNumber() : kind == 1 ? moduleNumber() : number();
        same(at + "deed(" + m + ", " + kind + ", " + n + ")", x.deed(m, kind, n), model.deed(m, kind, n));
    }

    private void tellConstant(String at, int m) {
        int kind = among(12);
        boolean namesModule = kind >= 8 && kind <= 10;
        boolean namesConstants = kind == 2 || kind == 3 || kind == 7;
        int a = namesModule ? moduleNumber() : kind == 0 || kind == 6 ? number() : constantNumber();
        int b = namesConstants ? constantNumber() : number();
        int c = kind == 7 ? constantNumber() : number();
        String call = "constant(" + m + ", " + kind + ", " + a + ", " + b + ", " + c + ")";
        same(at + call, x.constant(m, kind, a, b, c), model.constant(m, kind, a, b, c));
    }

    private void ask(String at) {
        int loader = among(3);
        int m = moduleNumber();
        int k = constantNumber();
        switch (random.nextInt(16)) {
            case 0 -> {
                same(at + "start(" + loader + ", " + m + ")", x.start(loader, m), model.start(loader, m));
                sameTrace(at);
            }
            case 1 -> same(at + "state(" + loader + ", " + m + ")", x.state(loader, m), model.state(loader, m));
            case 2 -> same(at + "kept(" + loader + ", " + k + ")", x.kept(loader, k), model.kept(loader, k));
            case 3, 4 -> {
                int i = among(9);
                same(at + "row(" + loader + ", " + m + ", " + i + ")", x.row(loader, m, i), model.row(loader, m, i));
            }
            case 5 -> same(at + "forget(" + loader + ")", x.forget(loader), model.forget(loader));
            case 6 -> {
                int seed = random.nextInt();
                same(at + "alike(" + seed + ")", x.alike(seed), model.alike(seed));
            }
            case 7 -> {
                int what = among(4);
                same(at + "told(" + what + ")", x.told(what), model.told(what));
            }
            case 8 -> {
                int i = among(110);
                int what = among(2);
                same(at + "trace(" + i + ", " + what + ")", x.trace(i, what), model.trace(i, what));
            }
            case 9 -> same(at + "value()", x.value(), model.value());
            default -> {
                same(at + "need(" + loader + ", " + k + ")", x.need(loader, k), model.need(loader, k));
                sameTrace(at);
            }
        }
    }

    /** Now and then all that the latest call left is read, as far as the calls go. */
    private void sameTrace(String at) {
        if (left > 0) {
            same(at + "value()", x.value(), model.value());
        }
        for (int what = 0; what < 4 && left > 0; what++) {
            same(at + "fault(" + what + ")", x.fault(what), model.fault(what));
        }
        int entries = random.nextInt(3) == 0 ? model.told(2) : -1;
        for (int i = 0; i <= 2 * entries && left > 0; i++) {
            same(at + "trace(" + i / 2 + ", " + i % 2 + ")", x.trace(i / 2, i % 2), model.trace(i / 2, i % 2));
        }
        if (left > 0) {
            same(at + "told(3)", x.told(3), model.told(3));
        }
    }
}
