import java.util.List;

/** Promise 16: alike. */
final class AlikeSentences {
    private static final int MIN = Integer.MIN_VALUE;
    private static final int MAX = Integer.MAX_VALUE;

    private static final String ASIDE = "In two LOADERS aside all CONSTANTS are NEEDED";
    private static final String ORDER = "for k from their number less 1 down to 1: x becomes x * 1103515245 + 12345, "
        + "and the one at k changes places with that at (x >>> 16) modulo (k + 1).";
    private static final String OTHER = "How many have other outcomes: a VALUE and a FAULT, or unlike VALUES, "
        + "or FAULTS (by themselves; NUMBERS, CAUSES are not looked at).";
    private static final String FULL = "FULL: 40 such calls were made.";

    /** Of two constants, the second comes first with seed 0; with seed 3 they stay as they are. */
    private static final int TURNED = 0;
    private static final int STRAIGHT = 3;

    private AlikeSentences() { }

    static List<Section> all() {
        Section promise = new Section("Promise 16: alike");
        promise.test(ASIDE, "none, and one alone", AlikeSentences::noneAndOne);
        promise.test(ASIDE, "LOADERS 0 .. 2 and what was asked last stay", AlikeSentences::leavesAll);
        promise.test(ASIDE, "what LOADERS 0 .. 2 have is not there", AlikeSentences::takesNothing);
        promise.test(ASIDE, "nothing is left there for the next call", AlikeSentences::begunAnew);
        promise.test(ORDER, "two: both orders", AlikeSentences::twoOrders);
        promise.test(ORDER, "all 40, x wrapping, both ends as seed", AlikeSentences::ordersOfForty);
        promise.test(OTHER, "a VALUE and a FAULT", AlikeSentences::valueAndFault);
        promise.test(OTHER, "unlike VALUES, of few and of many", AlikeSentences::unlikeValues);
        promise.test(OTHER, "unlike FAULTS", AlikeSentences::unlikeFaults);
        promise.test(OTHER, "NUMBERS are not looked at", AlikeSentences::unlikeNumbers);
        promise.test(OTHER, "CAUSES are not looked at", AlikeSentences::unlikeCauses);
        promise.test(OTHER, "a FAULT is no VALUE of 0", AlikeSentences::faultIsNoZero);
        promise.test(OTHER, "like FAULTS after unlike VALUES", AlikeSentences::faultsAfterValues);
        promise.test(FULL, "the 40th and the 41st", AlikeSentences::fortyCalls);
        promise.test(FULL, "of one object, whatever it has", AlikeSentences::fullForGood);
        return List.of(promise);
    }

    /** The order by the document's words, reckoned in longs, so that it wraps by another way. */
    private static int[] order(int n, int seed) {
        int[] order = new int[n];
        for (int i = 0; i < n; i++) {
            order[i] = i;
        }
        long x = seed & 0xFFFFFFFFL;
        for (int k = n - 1; k >= 1; k--) {
            x = (x * 1103515245L + 12345L) % 0x100000000L;
            int other = (int) (x / 65536 % (k + 1));
            int moved = order[k];
            order[k] = order[other];
            order[other] = moved;
        }
        return order;
    }

    /** Forty: 1 .. 37 read an item, and 39 stores 9 there. */
    private static Watched readersAndStore(Check check) {
        Watched x = new Watched(check);
        x.module(1);
        x.number(0, 0);
        for (int i = 1; i <= 37; i++) {
            x.constant(0, 4, 0, 0, 0);
        }
        x.number(0, 9);
        x.constant(0, 11, 38, 0, 0).is(39);
        return x;
    }

    private static int readersAfterStore(int seed) {
        int after = 0;
        boolean stored = false;
        for (int constant : order(40, seed)) {
            stored |= constant == 39;
            after += stored && constant >= 1 && constant <= 37 ? 1 : 0;
        }
        return after;
    }

    /** Two: 0 tells whether module 1 is started, 1 starts it. */
    private static Watched stateAndStart(Check check) {
        Watched x = new Watched(check);
        x.modules(2, 0);
        x.constant(0, 8, 1, 0, 0);
        x.number(1, 3);
        return x;
    }

    private static void noneAndOne(Check check) {
        Watched x = new Watched(check);
        for (int seed : new int[] {0, 1, MIN, MAX}) {
            x.alike(seed).is(0);
        }
        x.module(0);
        x.constant(0, 1, 0, 1, 0);
        for (int seed : new int[] {0, 1, MIN, MAX}) {
            x.alike(seed).is(0);
        }
    }

    private static void leavesAll(Check check) {
        Watched x = new Watched(check);
        x.modules(2, 1);
        x.deed(1, 2, 6);
        x.number(0, 3);
        x.constant(0, 11, 0, 0, 0);
        x.constant(1, 6, 2, 0, 0);
        x.needIs(0, 0, 3);
        x.need(1, 2).failsBy(Faults.START);
        x.unchangedBy(() -> {
            x.alike(TURNED);
            x.alike(STRAIGHT);
        });
    }

    private static void takesNothing(Check check) {
        Watched x = stateAndStart(check);
        for (int loader = 0; loader <= 2; loader++) {
            x.start(loader, 1).is(1);
            x.needIs(loader, 0, 1);
        }
        x.alike(TURNED).is(1);
        x.alike(STRAIGHT).is(0);
    }

    private static void begunAnew(Check check) {
        Watched x = stateAndStart(check);
        x.alike(TURNED).is(1);
        x.alike(TURNED).is(1);
        x.alike(STRAIGHT).is(0);
        x.alike(TURNED).is(1);
        x.deed(1, 2, 4);
        x.alike(STRAIGHT).is(0);
        x.alike(TURNED).is(1);
    }

    private static void twoOrders(Check check) {
        Watched x = stateAndStart(check);
        int[] seeds = {0, 1, 2, 3};
        int[] due = {1, 1, 1, 0};
        for (int i = 0; i < seeds.length; i++) {
            x.alike(seeds[i]).is(due[i]);
        }
        for (int seed = 4; seed < 20; seed++) {
            x.alike(-seed).is(order(2, -seed)[0]);
        }
    }

    private static void ordersOfForty(Check check) {
        Watched x = readersAndStore(check);
        for (int seed : new int[] {0, 1, 2, 3, 4, 5, -1, -2, -3, -4, MIN, MAX, 123456789, -987654321}) {
            x.alike(seed).is(readersAfterStore(seed));
        }
    }

    /** 0 rescues what 1 makes endless, if 1 does not come first. */
    private static void valueAndFault(Check check) {
        Watched x = new Watched(check);
        x.module(0);
        x.constant(0, 5, 1, 3, 0);
        x.constant(0, 1, 0, 4, 0);
        x.alike(TURNED).is(1);
        x.alike(STRAIGHT).is(0);
    }

    private static void unlikeValues(Check check) {
        Watched x = readersAndStore(check);
        int most = 0;
        int least = 37;
        for (int seed = 0; seed < 40; seed++) {
            int after = readersAfterStore(seed);
            x.alike(seed).is(after);
            most = Math.max(most, after);
            least = Math.min(least, after);
        }
        check.holds("orders from few unlike to many: " + least + " .. " + most, least < 5 && most > 30);
    }

    private static void unlikeFaults(Check check) {
        Watched x = new Watched(check);
        x.module(0);
        x.deed(0, 2, 5);
        x.number(0, 1);
        x.number(0, 2);
        x.alike(TURNED).is(2);
        x.alike(STRAIGHT).is(0);
    }

    /** The one that is needed first is the one that is endless. */
    private static void unlikeNumbers(Check check) {
        Watched x = new Watched(check);
        x.module(0);
        x.constant(0, 1, 1, 0, 0);
        x.constant(0, 1, 0, 0, 0);
        x.alike(TURNED).is(0);
        x.alike(STRAIGHT).is(0);
        x.need(0, 0).failsBy(Faults.ENDLESS);
        x.fault(1).is(0);
        x.need(1, 1).failsBy(Faults.ENDLESS);
        x.need(1, 0).failsBy(Faults.ENDLESS);
        x.fault(1).is(1);
    }

    /** 0 starts module 1, which breaks by LIBRARY if 0 comes first, and else by 1 being ENDLESS. */
    private static void unlikeCauses(Check check) {
        Watched x = new Watched(check);
        x.modules(2, 0);
        x.constant(0, 10, 1, 0, 0);
        x.constant(0, 5, 0, 4, 0);
        x.deed(1, 0, 1);
        x.deed(1, 2, 7);
        x.alike(TURNED).is(0);
        x.alike(STRAIGHT).is(0);
        x.need(0, 0).failsBy(Faults.START);
        x.faultIs(Faults.START, 1, Faults.LIBRARY, 7);
        x.needIs(1, 1, 4);
        x.need(1, 0).failsBy(Faults.START);
        x.faultIs(Faults.START, 1, Faults.ENDLESS, 1);
    }

    /** As in valueAndFault, but what comes out is 0. */
    private static void faultIsNoZero(Check check) {
        Watched x = new Watched(check);
        x.module(0);
        x.constant(0, 5, 1, 0, 0);
        x.constant(0, 1, 0, 0, 0);
        x.alike(TURNED).is(1);
        x.alike(STRAIGHT).is(0);
    }

    private static void faultsAfterValues(Check check) {
        Watched x = new Watched(check);
        x.module(0);
        x.number(0, 5);
        x.constant(0, 6, 1, 0, 0);
        x.number(0, 6);
        x.constant(0, 1, 1, 1, 0);
        for (int seed = 0; seed < 20; seed++) {
            x.alike(seed).is(0);
        }
    }

    private static void fortyCalls(Check check) {
        Watched x = stateAndStart(check);
        for (int i = 1; i <= 40; i++) {
            x.alike(TURNED).is(1);
        }
        x.alike(TURNED).isFull();
        x.alike(STRAIGHT).isFull();
    }

    private static void fullForGood(Check check) {
        Watched x = new Watched(check);
        for (int i = 1; i <= 40; i++) {
            x.alike(i).is(0);
        }
        x.module(0);
        x.number(0, 5);
        x.needIs(0, 0, 5);
        x.forget(0).is(1);
        x.unchangedBy(() -> {
            x.alike(1).isFull();
            x.alike(MIN).isFull();
        });
        stateAndStart(check).alike(TURNED).is(1);
    }
}
