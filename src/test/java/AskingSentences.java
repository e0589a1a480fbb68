import java.util.List;

/** Promises 11 to 15 and 17: what is asked of a loader and of the whole, and what a loader forgets. */
final class AskingSentences {
    private static final int MIN = Integer.MIN_VALUE;
    private static final int MAX = Integer.MAX_VALUE;
    private static final int[] NO_LOADERS = {-1, 3, MIN, MAX};

    private AskingSentences() { }

    static List<Section> all() {
        return List.of(state(), kept(), row(), trace(), forget(), told());
    }

    private static Section state() {
        Section promise = new Section("Promise 11: state");
        promise.test("Of a MODULE in a LOADER: 0 nothing yet, 1 STARTED, 3 BROKEN.", "the first and the last MODULE",
            AskingSentences::states);
        promise.test("BAD.", "no such LOADER", AskingSentences::stateInNoLoader);
        promise.test("BAD.", "no such MODULE", AskingSentences::stateOfNoModule);
        return promise;
    }

    private static Section kept() {
        Section promise = new Section("Promise 12: kept");
        String quote = "Of a CONSTANT in a LOADER: 0 it was not worked, 1 a VALUE came out, 10 and a FAULT.";
        promise.test(quote, "each FAULT that can be kept", AskingSentences::keptFaults);
        promise.test(quote, "0: told since, or its MODULE broke before", AskingSentences::keptNothing);
        promise.test("BAD.", "no such LOADER", AskingSentences::keptInNoLoader);
        promise.test("BAD.", "no such CONSTANT", AskingSentences::keptOfNoConstant);
        return promise;
    }

    private static Section row() {
        Section promise = new Section("Promise 13: row");
        String quote = "Item i of a MODULE's ROW in a LOADER (as told, if it did not begin to start there).";
        promise.test(quote, "before it begins and after", AskingSentences::rowBeforeAndAfter);
        promise.test("NONE: no such item.", "below the first and beyond the last", AskingSentences::rowOfNoItem);
        promise.test("BAD: LOADER, MODULE.", "LOADER", AskingSentences::rowInNoLoader);
        promise.test("BAD: LOADER, MODULE.", "MODULE", AskingSentences::rowOfNoModule);
        promise.test("BAD: LOADER, MODULE.", "and no such item: BAD", AskingSentences::rowOfNothing);
        return promise;
    }

    private static Section trace() {
        Section promise = new Section("Promise 14: trace");
        promise.test("Of entry i of THE TRACE: 0 what came, 1 the number.", "the first and the last",
            AskingSentences::traceEnds);
        promise.test("NONE: no such entry.", "below the first and beyond the last", AskingSentences::traceOfNoEntry);
        promise.test("NONE: no such entry.", "what an earlier, longer one had", AskingSentences::traceOfEarlier);
        promise.test("BAD: what.", "below 0 and above 1", AskingSentences::badTrace);
        return promise;
    }

    private static Section forget() {
        Section promise = new Section("Promise 15: forget");
        String nothing = "A LOADER has nothing any more";
        String count = "how many MODULES were STARTED or BROKEN there.";
        promise.test(nothing, "states, what was kept, and rows", AskingSentences::forgetsAll);
        promise.test(nothing, "the other LOADERS have what they had", AskingSentences::forgetsOneLoader);
        promise.test(nothing, "what was told stays told", AskingSentences::forgetsNothingTold);
        promise.test(count, "none, and all twelve", AskingSentences::forgetCounts);
        promise.test("BAD.", "no such LOADER", AskingSentences::forgetInNoLoader);
        return promise;
    }

    private static Section told() {
        Section promise = new Section("Promise 17: told");
        promise.test("0 MODULES, 1 CONSTANTS, 2 entries of THE TRACE", "none, and as many as there may be",
            AskingSentences::toldAll);
        promise.test("3 of all that were worked in LOADERS 0 .. 2, since the house began.", "not again, and not aside",
            AskingSentences::toldWorked);
        promise.test("3 of all that were worked in LOADERS 0 .. 2, since the house began.", "those that were forgotten",
            AskingSentences::toldForgotten);
        promise.test("BAD.", "below 0 and above 3", AskingSentences::badTold);
        return promise;
    }

    private static void states(Check check) {
        Watched x = new Watched(check);
        x.modules(12, 0);
        x.deed(11, 2, 1);
        x.start(0, 0).is(1);
        x.start(2, 11).failsBy(Faults.START);
        for (int loader = 0; loader <= 2; loader++) {
            for (int module = 0; module < 12; module++) {
                int broken = loader == 2 && module == 11 ? 3 : 0;
                x.state(loader, module).is(loader == 0 && module == 0 ? 1 : broken);
            }
        }
    }

    private static void stateInNoLoader(Check check) {
        Watched x = new Watched(check);
        x.module(0);
        for (int loader : NO_LOADERS) {
            x.state(loader, 0).isBad();
        }
    }

    private static void stateOfNoModule(Check check) {
        Watched x = new Watched(check);
        x.modules(2, 0);
        for (int module : new int[] {-1, 2, 11, 12, MIN, MAX}) {
            x.state(0, module).isBad();
        }
    }

    private static void keptFaults(Check check) {
        Watched x = new Watched(check);
        x.modules(2, 0);
        x.deed(1, 2, 5);
        x.number(0, 0);
        x.constant(0, 3, 0, 0, 0);
        x.constant(0, 4, 0, 0, 0);
        x.constant(0, 6, 1, 0, 0);
        x.constant(0, 1, 4, 0, 0);
        x.constant(0, 10, 1, 0, 0);
        x.constant(0, 10, 1, 0, 0);
        x.constant(0, 1, 39, 0, 0);
        int[] due = {1, 11, 12, 13, 14, 15, 16, 18};
        for (int i = 0; i < due.length; i++) {
            x.need(1, i);
            x.kept(1, i).is(due[i]);
            x.kept(0, i).is(0);
            x.kept(2, i).is(0);
        }
    }

    private static void keptNothing(Check check) {
        Watched x = new Watched(check);
        x.modules(2, 0);
        x.deed(1, 2, 5);
        x.number(1, 0);
        x.need(0, 0).failsBy(Faults.START);
        x.kept(0, 0).is(0);
        x.need(0, 0).failsBy(Faults.GONE);
        x.kept(0, 0).is(0);
        x.number(0, 3).is(1);
        x.kept(0, 1).is(0);
    }

    private static void keptInNoLoader(Check check) {
        Watched x = new Watched(check);
        x.module(0);
        x.number(0, 3);
        x.need(0, 0).is(1);
        for (int loader : NO_LOADERS) {
            x.kept(loader, 0).isBad();
        }
    }

    private static void keptOfNoConstant(Check check) {
        Watched x = new Watched(check);
        x.module(0);
        x.number(0, 3);
        x.number(0, 4);
        for (int constant : new int[] {-1, 2, 39, 40, MIN, MAX}) {
            x.kept(0, constant).isBad();
        }
    }

    private static void rowBeforeAndAfter(Check check) {
        Watched x = new Watched(check);
        x.module(8);
        x.item(0, 0, 30);
        x.item(0, 7, 37);
        x.number(0, 5);
        x.constant(0, 11, 0, 7, 0);
        x.row(0, 0, 0).is(30);
        x.row(0, 0, 7).is(37);
        x.row(0, 0, 3).is(0);
        x.needIs(0, 1, 5);
        x.item(0, 0, 40);
        x.row(0, 0, 0).is(30);
        x.row(0, 0, 7).is(5);
        x.row(1, 0, 0).is(40);
        x.row(1, 0, 7).is(37);
    }

    private static void rowOfNoItem(Check check) {
        Watched x = new Watched(check);
        x.module(3);
        x.module(8);
        x.module(0);
        for (int round = 0; round < 2; round++) {
            for (int i : new int[] {-1, 3, 8, MIN, MAX}) {
                x.row(0, 0, i).isNone();
            }
            x.row(0, 0, 2).is(0);
            x.row(0, 1, 7).is(0);
            x.row(0, 1, 8).isNone();
            x.row(0, 1, -1).isNone();
            x.row(0, 2, 0).isNone();
            for (int module = 0; module < 3; module++) {
                x.start(0, module).is(1);
            }
        }
    }

    private static void rowInNoLoader(Check check) {
        Watched x = new Watched(check);
        x.module(1);
        for (int loader : NO_LOADERS) {
            x.row(loader, 0, 0).isBad();
        }
    }

    private static void rowOfNoModule(Check check) {
        Watched x = new Watched(check);
        x.modules(2, 1);
        for (int module : new int[] {-1, 2, 11, 12, MIN, MAX}) {
            x.row(0, module, 0).isBad();
        }
    }

    private static void rowOfNothing(Check check) {
        Watched x = new Watched(check);
        x.module(1);
        x.row(3, 0, 1).isBad();
        x.row(-1, 0, -1).isBad();
        x.row(0, 1, 1).isBad();
        x.row(0, -1, -1).isBad();
    }

    private static void traceEnds(Check check) {
        Watched x = new Watched(check);
        x.modules(2, 0);
        x.constant(1, 6, 5, 0, 0);
        x.number(1, 5);
        x.need(0, 0).failsBy(Faults.OWN);
        x.told(2).is(4);
        x.trace(0, 0).is(0);
        x.trace(0, 1).is(1);
        x.trace(3, 0).is(5);
        x.trace(3, 1).is(0);
    }

    private static void traceOfNoEntry(Check check) {
        Watched x = new Watched(check);
        x.module(0);
        x.start(0, 0).is(1);
        for (int i : new int[] {-1, 2, 199, 200, MIN, MAX}) {
            x.trace(i, 0).isNone();
            x.trace(i, 1).isNone();
        }
    }

    private static void traceOfEarlier(Check check) {
        Watched x = new Watched(check);
        x.modules(2, 0);
        x.uses(0, 1);
        x.start(0, 0).is(1);
        x.trace(3, 0).is(1);
        x.start(1, 1).is(1);
        x.trace(1, 1).is(1);
        x.trace(2, 0).isNone();
        x.trace(3, 0).isNone();
        x.start(1, 1).is(1);
        x.trace(0, 0).isNone();
    }

    private static void badTrace(Check check) {
        Watched x = new Watched(check);
        for (int what : new int[] {-1, 2, MIN, MAX}) {
            x.trace(0, what).isBad();
            x.trace(-1, what).isBad();
        }
        x.module(0);
        x.start(0, 0).is(1);
        for (int what : new int[] {-1, 2, MIN, MAX}) {
            x.trace(0, what).isBad();
            x.trace(200, what).isBad();
        }
    }

    private static void forgetsAll(Check check) {
        Watched x = new Watched(check);
        x.modules(2, 1);
        x.deed(1, 2, 5);
        x.constant(0, 6, 3, 0, 0);
        x.number(0, 4);
        x.constant(0, 11, 1, 0, 0);
        x.need(0, 0).failsBy(Faults.OWN);
        x.needIs(0, 2, 4);
        x.start(0, 1).failsBy(Faults.START);
        x.forget(0).is(2);
        x.state(0, 0).is(0);
        x.state(0, 1).is(0);
        x.kept(0, 0).is(0);
        x.kept(0, 1).is(0);
        x.kept(0, 2).is(0);
        x.row(0, 0, 0).is(0);
        x.start(0, 1).failsBy(Faults.START);
        x.needIs(0, 2, 4);
        x.traceIs(0, 0, 1, 0, 3, 2, 3, 1, 4, 1, 4, 2);
    }

    private static void forgetsOneLoader(Check check) {
        Watched x = new Watched(check);
        x.module(1);
        x.number(0, 4);
        x.constant(0, 11, 0, 0, 0);
        for (int loader = 0; loader <= 2; loader++) {
            x.needIs(loader, 1, 4);
        }
        x.forget(1).is(1);
        for (int loader = 0; loader <= 2; loader++) {
            int had = loader == 1 ? 0 : 1;
            x.state(loader, 0).is(had);
            x.kept(loader, 0).is(had);
            x.kept(loader, 1).is(had);
            x.row(loader, 0, 0).is(4 * had);
        }
    }

    private static void forgetsNothingTold(Check check) {
        Watched x = new Watched(check);
        x.modules(2, 1);
        x.item(0, 0, 8);
        x.uses(0, 1);
        x.number(1, 3);
        x.deed(0, 0, 0);
        x.start(0, 0).is(1);
        x.forget(0).is(2);
        x.told(0).is(2);
        x.told(1).is(1);
        x.row(0, 0, 0).is(8);
        x.start(0, 0).is(1);
        x.traceIs(0, 0, 0, 1, 1, 1, 3, 0, 4, 0, 1, 0);
    }

    private static void forgetCounts(Check check) {
        Watched x = new Watched(check);
        x.forget(0).is(0);
        x.modules(12, 0);
        x.forget(0).is(0);
        for (int i = 0; i < 12; i++) {
            x.deed(i, i % 2 == 0 ? 1 : 2, i);
            x.start(0, i).is(i % 2 == 0 ? 1 : -15);
        }
        x.forget(0).is(12);
        x.forget(0).is(0);
        x.start(2, 0).is(1);
        x.forget(2).is(1);
        x.start(2, 1).failsBy(Faults.START);
        x.forget(2).is(1);
    }

    private static void forgetInNoLoader(Check check) {
        Watched x = new Watched(check);
        x.module(0);
        for (int loader = 0; loader <= 2; loader++) {
            x.start(loader, 0).is(1);
        }
        x.unchangedBy(() -> {
            for (int loader : NO_LOADERS) {
                x.forget(loader).isBad();
            }
        });
    }

    private static void toldAll(Check check) {
        Watched x = new Watched(check);
        for (int what = 0; what <= 2; what++) {
            x.told(what).is(0);
        }
        for (int i = 0; i < 12; i++) {
            x.module(0);
            x.told(0).is(i + 1);
            x.told(1).is(0);
        }
        for (int i = 0; i < 40; i++) {
            x.constant(i % 12, 1, i - 1 + (i == 0 ? 1 : 0), 1, 0);
            x.told(1).is(i + 1);
        }
        x.module(0).isFull();
        x.number(0, 0).isFull();
        x.told(0).is(12);
        x.told(1).is(40);
        x.told(2).is(0);
        x.need(0, 39).failsBy(Faults.ENDLESS);
        x.told(2).is(104);
        x.need(0, 39).failsBy(Faults.ENDLESS);
        x.told(2).is(0);
    }

    private static void toldWorked(Check check) {
        Watched x = new Watched(check);
        x.told(3).is(0);
        x.modules(2, 0);
        x.constant(0, 6, 1, 0, 0);
        x.constant(0, 5, 0, 1, 0);
        x.number(1, 2);
        x.deed(1, 2, 3);
        x.alike(1);
        x.told(3).is(0);
        for (int loader = 0; loader <= 2; loader++) {
            x.needIs(loader, 1, 1);
            x.told(3).is(2 * loader + 2);
            x.needIs(loader, 1, 1);
            x.need(loader, 0).failsBy(Faults.OWN);
            x.need(loader, 2).failsBy(Faults.START);
            x.told(3).is(2 * loader + 2);
        }
        x.alike(1);
        x.told(3).is(6);
    }

    private static void toldForgotten(Check check) {
        Watched x = new Watched(check);
        x.module(0);
        x.number(0, 2);
        for (int i = 1; i <= 3; i++) {
            x.needIs(1, 0, 2);
            x.forget(1).is(1);
            x.told(3).is(i);
        }
    }

    private static void badTold(Check check) {
        Watched x = new Watched(check);
        for (int what : new int[] {-1, 4, MIN, MAX}) {
            x.told(what).isBad();
        }
    }
}
