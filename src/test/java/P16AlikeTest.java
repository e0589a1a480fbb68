public final class P16AlikeTest {
    public static void main(String[] args) {
        Check check = new Check("alike");
        fortyCalls(check);
        leavesLoadersAlone(check);
        readBeforeOrAfterStore(check);
        faultsAfterOtherValues(check);
        firstOneMovesToo(check);
        faultsByThemselves(check);
        check.end();
    }

    private static void fortyCalls(Check check) {
        ConstantStarts x = new ConstantStarts();
        for (int i = 0; i < 40; i++) {
            check.due("alike, call " + i, x.alike(i), 0);
        }
        check.due("alike, call 40", x.alike(1), ConstantStarts.FULL);
        check.due("alike, call 41", x.alike(1), ConstantStarts.FULL);
    }

    private static void leavesLoadersAlone(Check check) {
        ConstantStarts x = new ConstantStarts();
        x.module(1);
        x.constant(0, 0, 3, 0, 0);
        x.constant(0, 11, 0, 0, 0);
        x.alike(1);
        check.due("told(3)", x.told(3), 0);
        check.due("told(2)", x.told(2), 0);
        check.due("value()", x.value(), 0);
        for (int loader = 0; loader < 3; loader++) {
            check.due("state", x.state(loader, 0), 0);
            check.due("kept", x.kept(loader, 0), 0);
            check.due("row", x.row(loader, 0, 0), 0);
        }
    }

    /** The order by the document's words, reckoned here in longs. */
    private static int[] order(int n, int seed) {
        int[] order = new int[n];
        for (int i = 0; i < n; i++) {
            order[i] = i;
        }
        long x = seed & 0xFFFFFFFFL;
        for (int k = n - 1; k >= 1; k--) {
            x = (x * 1103515245L + 12345L) & 0xFFFFFFFFL;
            int other = (int) ((x >> 16) % (k + 1));
            int moved = order[k];
            order[k] = order[other];
            order[other] = moved;
        }
        return order;
    }

    private static int placeOf(int[] order, int constant) {
        int place = 0;
        while (order[place] != constant) {
            place++;
        }
        return place;
    }

    /** Five constants read an item that the last one stores: those that come after it see another one. */
    private static ConstantStarts readersAndStore() {
        ConstantStarts x = new ConstantStarts();
        x.module(1);
        x.constant(0, 0, 0, 0, 0);
        for (int i = 1; i <= 5; i++) {
            x.constant(0, 4, 0, 0, 0);
        }
        x.constant(0, 0, 9, 0, 0);
        x.constant(0, 11, 6, 0, 0);
        return x;
    }

    private static int readersAfterStore(int seed) {
        int[] order = order(8, seed);
        int after = 0;
        for (int i = 1; i <= 5; i++) {
            if (placeOf(order, i) > placeOf(order, 7)) {
                after++;
            }
        }
        return after;
    }

    private static void readBeforeOrAfterStore(Check check) {
        int[] seeds = {0, 1, 2, 3, -1, 77, Integer.MIN_VALUE, Integer.MAX_VALUE, 123456789};
        ConstantStarts used = readersAndStore();
        for (int seed : seeds) {
            int want = readersAfterStore(seed);
            ConstantStarts fresh = readersAndStore();
            check.due("alike(" + seed + ")", fresh.alike(seed), want);
            check.due("alike(" + seed + ") again", fresh.alike(seed), want);
            check.due("alike(" + seed + ") after others", used.alike(seed), want);
        }
    }

    /** What came out before a fault is no part of it. */
    private static void faultsAfterOtherValues(Check check) {
        for (int seed = 0; seed < 20; seed++) {
            ConstantStarts x = new ConstantStarts();
            x.module(0);
            x.constant(0, 0, 5, 0, 0);
            x.constant(0, 6, 1, 0, 0);
            x.constant(0, 0, 6, 0, 0);
            x.constant(0, 1, 1, 1, 0);
            check.due("alike(" + seed + ") of values and faults", x.alike(seed), 0);
        }
    }

    /** Constant 0 tells the state of a module that constant 1 starts; each call makes the order anew. */
    private static void firstOneMovesToo(Check check) {
        for (int seed = 0; seed < 20; seed++) {
            ConstantStarts x = new ConstantStarts();
            x.module(0);
            x.module(0);
            x.constant(0, 8, 1, 0, 0);
            x.constant(1, 0, 3, 0, 0);
            int[] order = order(2, seed);
            check.due("alike(" + seed + ") of a state", x.alike(seed), order[0] == 1 ? 1 : 0);
            check.due("alike(" + (seed + 1) + ") next", x.alike(seed + 1), order(2, seed + 1)[0] == 1 ? 1 : 0);
        }
    }

    /** One of two faults that differ in their numbers alone, and then in themselves. */
    private static void faultsByThemselves(Check check) {
        for (int seed = 0; seed < 20; seed++) {
            int[] order = order(2, seed);
            boolean turned = order[0] == 1;

            ConstantStarts ring = new ConstantStarts();
            ring.module(0);
            ring.constant(0, 1, 1, 0, 0);
            ring.constant(0, 1, 0, 0, 0);
            check.due("ENDLESS of one or the other", ring.alike(seed), 0);

            ConstantStarts broken = new ConstantStarts();
            broken.module(0);
            broken.deed(0, 2, 5);
            broken.constant(0, 0, 1, 0, 0);
            broken.constant(0, 0, 2, 0, 0);
            check.due("START or GONE", broken.alike(seed), turned ? 2 : 0);

            ConstantStarts rescue = new ConstantStarts();
            rescue.module(0);
            rescue.constant(0, 5, 1, 3, 0);
            rescue.constant(0, 1, 0, 4, 0);
            check.due("a value or a fault", rescue.alike(seed), turned ? 1 : 0);
        }
    }
}
