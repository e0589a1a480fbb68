import java.util.List;

/** Terms, the first part: how many there may be, how long a row is, and what numbers are. */
final class TermsSentences {
    private static final int MIN = Integer.MIN_VALUE;
    private static final int MAX = Integer.MAX_VALUE;
    private static final int[] NO_LOADERS = {-1, 3, MIN, MAX};

    private static final String TOLD = "11 and CONSTANTS 0 .. 39 are told for all LOADERS (0 .. 2)";
    private static final String ROW = "A MODULE has a ROW of 0 .. 8 ints (0, or as told)";
    private static final String USES = "MODULES that it USES (6 at most)";
    private static final String DEEDS = "DEEDS (6 at most), in the order told";
    private static final String NOT_YET = "CONSTANTS named in it need not be there yet";
    private static final String WRAPS = "numbers are ints, all reckoning wraps";

    private TermsSentences() { }

    static List<Section> all() {
        Section whole = new Section("What it is");
        whole.test("An object is used for at most 512 calls after it has been made", "the last of them",
            TermsSentences::lastCall);
        Section terms = new Section("Terms");
        terms.test(TOLD, "MODULES 0 .. 11 and none more", TermsSentences::twelveModules);
        terms.test(TOLD, "CONSTANTS 0 .. 39 and none more", TermsSentences::fortyConstants);
        terms.test(TOLD, "LOADERS 0 .. 2 and no other", TermsSentences::threeLoaders);
        terms.test(TOLD, "what is told is told for all LOADERS", TermsSentences::toldForAll);
        terms.test(ROW, "a ROW of 0", TermsSentences::emptyRow);
        terms.test(ROW, "a ROW of 8", TermsSentences::longestRow);
        terms.test(ROW, "a ROW of less than 0 or more than 8", TermsSentences::noSuchRow);
        terms.test(ROW, "0 where nothing was told", TermsSentences::rowOfZeros);
        terms.test(USES, "six, and a seventh", TermsSentences::sixUsed);
        terms.test(USES, "none", TermsSentences::noneUsed);
        terms.test(DEEDS, "six, and a seventh", TermsSentences::sixDeeds);
        terms.test(DEEDS, "none", TermsSentences::noDeeds);
        terms.test(NOT_YET, "the last number there may be", TermsSentences::notThereYet);
        terms.test(WRAPS, "the least and the greatest number", TermsSentences::extremeNumbers);
        terms.test(WRAPS, "kind 1 beyond both ends", TermsSentences::sumsWrap);
        terms.test(WRAPS, "kind 2 beyond both ends", TermsSentences::productsWrap);
        terms.test(WRAPS, "kind 3, the least number by -1", TermsSentences::quotientWraps);
        return List.of(whole, terms);
    }

    private static void lastCall(Check check) {
        Watched x = new Watched(check);
        x.module(0).is(0);
        x.number(0, 7).is(0);
        for (int i = 0; i < 254; i++) {
            x.need(2, 0).is(1);
            x.forget(2).is(1);
        }
        x.value().is(7);
        x.told(3).is(254);
        check.due("calls", x.calls(), 512);
    }

    private static void twelveModules(Check check) {
        Watched x = new Watched(check);
        for (int i = 0; i < 12; i++) {
            x.module(1).is(i);
        }
        x.module(1).isFull();
        x.told(0).is(12);
        x.item(11, 0, 5).is(1);
        x.uses(11, 11).is(1);
        x.deed(11, 1, 11).is(1);
        x.constant(11, 9, 11, 0, 0).is(0);
        x.needIs(0, 0, 1);
        x.start(2, 11).is(1);
        x.state(2, 11).is(1);
        x.row(2, 11, 0).is(5);
        x.item(12, 0, 5).isBad();
        x.uses(12, 0).isBad();
        x.uses(0, 12).isBad();
        x.deed(12, 2, 0).isBad();
        x.deed(0, 1, 12).isBad();
        x.constant(12, 0, 0, 0, 0).isBad();
        x.constant(0, 9, 12, 0, 0).isBad();
        x.start(2, 12).isBad();
        x.state(2, 12).isBad();
        x.row(2, 12, 0).isBad();
    }

    private static void fortyConstants(Check check) {
        Watched x = new Watched(check);
        x.module(0);
        for (int i = 0; i < 40; i++) {
            x.number(0, 100 + i).is(i);
        }
        x.number(0, 1).isFull();
        x.told(1).is(40);
        x.needIs(0, 0, 100);
        x.needIs(2, 39, 139);
        x.kept(2, 39).is(1);
        x.need(2, 40).isBad();
        x.kept(2, 40).isBad();
        x.deed(0, 0, 39).is(1);
        x.deed(0, 0, 40).isBad();
    }

    private static void threeLoaders(Check check) {
        Watched x = new Watched(check);
        x.module(1);
        x.number(0, 6);
        for (int loader = 0; loader <= 2; loader++) {
            x.start(loader, 0).is(1);
            x.needIs(loader, 0, 6);
            x.state(loader, 0).is(1);
            x.kept(loader, 0).is(1);
            x.row(loader, 0, 0).is(0);
        }
        for (int loader : NO_LOADERS) {
            x.start(loader, 0).isBad();
            x.need(loader, 0).isBad();
            x.state(loader, 0).isBad();
            x.kept(loader, 0).isBad();
            x.row(loader, 0, 0).isBad();
            x.forget(loader).isBad();
        }
        for (int loader = 0; loader <= 2; loader++) {
            x.forget(loader).is(1);
        }
    }

    private static void toldForAll(Check check) {
        Watched x = new Watched(check);
        x.modules(2, 1);
        x.item(0, 0, 8);
        x.number(1, 0);
        x.constant(0, 4, 0, 0, 0);
        x.uses(0, 1);
        x.deed(0, 0, 1);
        for (int loader = 0; loader <= 2; loader++) {
            x.row(loader, 0, 0).is(8);
            x.start(loader, 0).is(1);
            x.traceIs(0, 0, 0, 1, 1, 1, 3, 1, 3, 0, 4, 0, 4, 1, 1, 0);
            x.needIs(loader, 1, 8);
        }
    }

    private static void emptyRow(Check check) {
        Watched x = new Watched(check);
        x.module(0).is(0);
        x.row(0, 0, 0).isNone();
        x.item(0, 0, 1).isBad();
        x.number(0, 0);
        x.constant(0, 4, 0, 0, 0);
        x.constant(0, 11, 0, 0, 0);
        x.need(0, 1).failsBy(Faults.PLACE);
        x.need(0, 2).failsBy(Faults.PLACE);
        x.row(0, 0, 0).isNone();
    }

    private static void longestRow(Check check) {
        Watched x = new Watched(check);
        x.module(8).is(0);
        for (int i = 0; i < 8; i++) {
            x.item(0, i, 20 + i).is(1);
        }
        x.item(0, 8, 28).isBad();
        x.start(0, 0);
        for (int i = 0; i < 8; i++) {
            x.row(0, 0, i).is(20 + i);
            x.row(1, 0, i).is(20 + i);
        }
        x.row(0, 0, 8).isNone();
        x.number(0, 7);
        x.constant(0, 4, 0, 0, 0);
        x.constant(0, 11, 0, 7, 0);
        x.needIs(0, 1, 27);
        x.needIs(0, 2, 7);
        x.row(0, 0, 7).is(7);
    }

    private static void noSuchRow(Check check) {
        Watched x = new Watched(check);
        for (int n : new int[] {-1, 9, MIN, MAX}) {
            x.module(n).isBad();
        }
        x.told(0).is(0);
        x.module(0).is(0);
        x.module(8).is(1);
    }

    private static void rowOfZeros(Check check) {
        Watched x = new Watched(check);
        x.module(3);
        x.item(0, 1, 5);
        x.start(1, 0);
        for (int loader = 0; loader <= 1; loader++) {
            x.row(loader, 0, 0).is(0);
            x.row(loader, 0, 1).is(5);
            x.row(loader, 0, 2).is(0);
        }
    }

    private static void sixUsed(Check check) {
        Watched x = new Watched(check);
        x.modules(8, 0);
        for (int i = 1; i <= 6; i++) {
            x.uses(0, i).is(i);
        }
        x.uses(0, 7).isFull();
        x.start(0, 0).is(1);
        x.traceIs(0, 0, 0, 1, 1, 1, 0, 2, 1, 2, 0, 3, 1, 3, 0, 4, 1, 4, 0, 5, 1, 5, 0, 6, 1, 6, 1, 0);
        x.state(0, 7).is(0);
        x.uses(7, 0).is(1);
    }

    private static void noneUsed(Check check) {
        Watched x = new Watched(check);
        x.modules(2, 0);
        x.start(0, 0).is(1);
        x.traceIs(0, 0, 1, 0);
        x.state(0, 1).is(0);
    }

    private static void sixDeeds(Check check) {
        Watched x = new Watched(check);
        x.modules(2, 0);
        for (int i = 0; i < 7; i++) {
            x.number(1, i);
        }
        for (int i = 0; i < 6; i++) {
            x.deed(0, 0, 5 - i).is(i + 1);
        }
        x.deed(0, 0, 6).isFull();
        x.deed(0, 2, 6).isFull();
        x.start(0, 0).is(1);
        x.traceIs(0, 0, 0, 1, 1, 1, 3, 5, 4, 5, 3, 4, 4, 4, 3, 3, 4, 3, 3, 2, 4, 2, 3, 1, 4, 1, 3, 0, 4, 0, 1, 0);
        x.kept(0, 6).is(0);
        x.deed(1, 0, 6).is(1);
    }

    private static void noDeeds(Check check) {
        Watched x = new Watched(check);
        x.module(0);
        x.number(0, 4);
        x.start(0, 0).is(1);
        x.traceIs(0, 0, 1, 0);
        x.kept(0, 0).is(0);
    }

    private static void notThereYet(Check check) {
        Watched x = new Watched(check);
        x.module(0);
        x.constant(0, 1, 39, 1, 0).is(0);
        x.constant(0, 2, 0, 39, 0).is(1);
        x.constant(0, 7, 39, 39, 39).is(2);
        x.deed(0, 0, 39).is(1);
        for (int i = 3; i < 39; i++) {
            x.number(0, 0);
        }
        x.need(0, 0).failsBy(Faults.START);
        x.faultIs(Faults.START, 0, Faults.MISSING, 39);
        x.number(0, 5).is(39);
        x.needIs(1, 0, 6);
        x.needIs(1, 1, 30);
        x.needIs(1, 2, 5);
    }

    private static void extremeNumbers(Check check) {
        Watched x = new Watched(check);
        x.module(2);
        x.modules(2, 0);
        int[] ends = {MIN, MAX};
        for (int i = 0; i < 2; i++) {
            x.item(0, i, ends[i]).is(1);
            x.row(1, 0, i).is(ends[i]);
            x.deed(1 + i, 2, ends[i]).is(1);
            x.start(0, 1 + i).failsBy(Faults.START);
            x.faultIs(Faults.START, 1 + i, Faults.LIBRARY, ends[i]);
            x.number(0, ends[i]);
            x.needIs(0, 3 * i, ends[i]);
            x.constant(0, 6, ends[i], 0, 0);
            x.need(0, 3 * i + 1).failsBy(Faults.OWN);
            x.faultIs(Faults.OWN, ends[i], Faults.OWN, ends[i]);
            x.constant(0, 5, 3 * i + 1, ends[i], 0);
            x.needIs(0, 3 * i + 2, ends[i]);
        }
    }

    private static void sumsWrap(Check check) {
        Watched x = new Watched(check);
        x.module(0);
        x.number(0, MAX);
        x.number(0, MIN);
        x.constant(0, 1, 0, 1, 0);
        x.constant(0, 1, 1, -1, 0);
        x.constant(0, 1, 0, MAX, 0);
        x.constant(0, 1, 1, MIN, 0);
        x.constant(0, 1, 0, MIN, 0);
        x.needIs(0, 2, MIN);
        x.needIs(0, 3, MAX);
        x.needIs(0, 4, -2);
        x.needIs(0, 5, 0);
        x.needIs(0, 6, -1);
    }

    private static void productsWrap(Check check) {
        Watched x = new Watched(check);
        x.module(0);
        int[] numbers = {MIN, MAX, -1, 65536, 65537};
        for (int n : numbers) {
            x.number(0, n);
        }
        x.constant(0, 2, 0, 2, 0);
        x.constant(0, 2, 1, 1, 0);
        x.constant(0, 2, 0, 1, 0);
        x.constant(0, 2, 3, 3, 0);
        x.constant(0, 2, 4, 4, 0);
        x.constant(0, 2, 0, 0, 0);
        x.needIs(0, 5, MIN);
        x.needIs(0, 6, 1);
        x.needIs(0, 7, MIN);
        x.needIs(0, 8, 0);
        x.needIs(0, 9, 131073);
        x.needIs(0, 10, 0);
    }

    private static void quotientWraps(Check check) {
        Watched x = new Watched(check);
        x.module(0);
        x.number(0, MIN);
        x.number(0, -1);
        x.constant(0, 3, 0, 1, 0);
        x.needIs(0, 2, MIN);
        x.noFault();
    }
}
