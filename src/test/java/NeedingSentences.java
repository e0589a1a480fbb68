import java.util.List;

/** Promises 7 to 10: need, value, start, and the fault of the latest of them. */
final class NeedingSentences {
    private static final int MIN = Integer.MIN_VALUE;
    private static final int MAX = Integer.MAX_VALUE;
    private static final int[] NO_LOADERS = {-1, 3, MIN, MAX};

    private NeedingSentences() { }

    static List<Section> all() {
        return List.of(need(), value(), start(), fault());
    }

    private static Section need() {
        Section promise = new Section("Promise 7: need");
        String quote = "A CONSTANT is NEEDED in a LOADER: 1; -10 less the FAULT.";
        promise.test(quote, "1, though the VALUE is 0 or below it", NeedingSentences::needAnswersOne);
        promise.test(quote, "each FAULT that a CONSTANT can have", NeedingSentences::needFails);
        promise.test("BAD.", "no such LOADER", NeedingSentences::needInNoLoader);
        promise.test("BAD.", "no such CONSTANT", NeedingSentences::needOfNoConstant);
        return promise;
    }

    private static Section value() {
        Section promise = new Section("Promise 8: value");
        String latest = "The VALUE of the latest need() that answered 1";
        promise.test("0 before one.", "nothing was told, needed, or came out", NeedingSentences::noValueYet);
        promise.test(latest, "after FAULTS and refused calls", NeedingSentences::valueStays);
        promise.test(latest, "after start, forget and alike", NeedingSentences::valueIsOfNeedAlone);
        promise.test(latest, "one that is told again, in another LOADER", NeedingSentences::valueToldAgain);
        return promise;
    }

    private static Section start() {
        Section promise = new Section("Promise 9: start");
        String quote = "A MODULE is started in a LOADER: 1; -10 less the FAULT.";
        promise.test(quote, "1: the first time and again", NeedingSentences::startAnswersOne);
        promise.test(quote, "START, then GONE for good", NeedingSentences::startFails);
        promise.test("BAD.", "no such LOADER", NeedingSentences::startInNoLoader);
        promise.test("BAD.", "no such MODULE", NeedingSentences::startOfNoModule);
        return promise;
    }

    private static Section fault() {
        Section promise = new Section("Promise 10: fault");
        String latest = "Of the FAULT of the latest need(), start()";
        promise.test(latest, "the latest of all LOADERS", NeedingSentences::faultOfLatest);
        promise.test(latest, "after refused calls", NeedingSentences::faultAfterRefused);
        promise.test(latest, "after forget and alike", NeedingSentences::faultOfNeedAndStartAlone);
        promise.test("0 it, 1 its NUMBER, 2 its CAUSE, 3 the CAUSE's NUMBER", "four unlike ones",
            NeedingSentences::fourUnlike);
        promise.test("0 if that had none.", "before the first, and after one without", NeedingSentences::faultOfNone);
        promise.test("BAD.", "below 0 and above 3", NeedingSentences::badFault);
        return promise;
    }

    private static void needAnswersOne(Check check) {
        Watched x = new Watched(check);
        x.module(0);
        int[] numbers = {0, -1, -11, MIN};
        for (int i = 0; i < numbers.length; i++) {
            x.number(0, numbers[i]);
            x.needIs(0, i, numbers[i]);
            x.needIs(0, i, numbers[i]);
            x.noFault();
        }
    }

    private static void needFails(Check check) {
        Watched x = new Watched(check);
        x.modules(2, 0);
        x.deed(1, 2, 3);
        x.number(0, 0);
        x.constant(0, 3, 0, 0, 0);
        x.constant(0, 4, 0, 0, 0);
        x.constant(0, 6, 0, 0, 0);
        x.constant(0, 1, 4, 0, 0);
        x.constant(0, 10, 1, 0, 0);
        x.constant(0, 10, 1, 0, 0);
        x.constant(0, 1, 39, 0, 0);
        int[] due = {-11, -12, -13, -14, -15, -16, -18};
        for (int loader = 0; loader <= 2; loader++) {
            for (int i = 0; i < due.length; i++) {
                x.need(loader, i + 1).is(due[i]);
                x.need(loader, i + 1).is(due[i]);
            }
        }
    }

    private static void needInNoLoader(Check check) {
        Watched x = new Watched(check);
        x.module(0);
        x.number(0, 4);
        x.unchangedBy(() -> {
            for (int loader : NO_LOADERS) {
                x.need(loader, 0).isBad();
            }
        });
        x.need(0, 0).is(1);
        x.need(2, 0).is(1);
    }

    private static void needOfNoConstant(Check check) {
        Watched x = new Watched(check);
        x.module(0);
        x.constant(0, 1, 2, 1, 0);
        x.number(0, 4);
        x.unchangedBy(() -> {
            for (int constant : new int[] {-1, 2, 39, 40, MIN, MAX}) {
                x.need(0, constant).isBad();
            }
        });
        x.need(0, 1).is(1);
    }

    private static void noValueYet(Check check) {
        Watched x = new Watched(check);
        x.value().is(0);
        x.module(0);
        x.constant(0, 6, 5, 0, 0);
        x.number(0, 8);
        x.deed(0, 0, 1);
        x.value().is(0);
        x.need(0, 2).isBad();
        x.value().is(0);
        x.start(0, 0).is(1);
        x.kept(0, 1).is(1);
        x.value().is(0);
        x.need(0, 0).failsBy(Faults.OWN);
        x.value().is(0);
        x.alike(1).is(0);
        x.value().is(0);
    }

    private static void valueStays(Check check) {
        Watched x = new Watched(check);
        x.module(0);
        x.number(0, 12);
        x.constant(0, 6, 5, 0, 0);
        x.constant(0, 3, 0, 3, 0);
        x.number(0, 0);
        x.needIs(0, 0, 12);
        x.need(0, 1).failsBy(Faults.OWN);
        x.value().is(12);
        x.need(0, 2).failsBy(Faults.ZERO);
        x.value().is(12);
        x.need(0, 4).isBad();
        x.need(3, 3).isBad();
        x.value().is(12);
        x.needIs(0, 3, 0);
    }

    private static void valueIsOfNeedAlone(Check check) {
        Watched x = new Watched(check);
        x.modules(2, 0);
        x.number(0, 12);
        x.number(0, 13);
        x.deed(1, 0, 1);
        x.needIs(0, 0, 12);
        x.start(0, 1).is(1);
        x.value().is(12);
        x.alike(3).is(0);
        x.value().is(12);
        x.forget(0).is(2);
        x.value().is(12);
    }

    private static void valueToldAgain(Check check) {
        Watched x = new Watched(check);
        x.module(0);
        x.number(0, 12);
        x.number(0, 13);
        x.needIs(0, 0, 12);
        x.needIs(1, 1, 13);
        x.needIs(0, 0, 12);
    }

    private static void startAnswersOne(Check check) {
        Watched x = new Watched(check);
        x.module(0);
        for (int loader = 0; loader <= 2; loader++) {
            x.start(loader, 0).is(1);
            x.traceIs(0, 0, 1, 0);
            x.start(loader, 0).is(1);
            x.traceIs();
            x.noFault();
        }
    }

    private static void startFails(Check check) {
        Watched x = new Watched(check);
        x.module(0);
        x.deed(0, 2, 1);
        for (int loader = 0; loader <= 2; loader++) {
            x.start(loader, 0).is(-15);
            x.start(loader, 0).is(-16);
            x.start(loader, 0).is(-16);
        }
    }

    private static void startInNoLoader(Check check) {
        Watched x = new Watched(check);
        x.module(0);
        x.unchangedBy(() -> {
            for (int loader : NO_LOADERS) {
                x.start(loader, 0).isBad();
            }
        });
        x.start(0, 0).is(1);
        x.start(2, 0).is(1);
    }

    private static void startOfNoModule(Check check) {
        Watched x = new Watched(check);
        x.modules(2, 0);
        x.unchangedBy(() -> {
            for (int module : new int[] {-1, 2, 11, 12, MIN, MAX}) {
                x.start(0, module).isBad();
            }
        });
        x.start(0, 1).is(1);
    }

    private static void faultOfLatest(Check check) {
        Watched x = new Watched(check);
        x.modules(2, 0);
        x.deed(1, 2, 7);
        x.constant(0, 6, 5, 0, 0);
        x.constant(0, 6, 6, 0, 0);
        x.need(0, 0).failsBy(Faults.OWN);
        x.need(2, 1).failsBy(Faults.OWN);
        x.faultIs(Faults.OWN, 6, Faults.OWN, 6);
        x.start(1, 1).failsBy(Faults.START);
        x.faultIs(Faults.START, 1, Faults.LIBRARY, 7);
        x.need(0, 0).failsBy(Faults.OWN);
        x.faultIs(Faults.OWN, 5, Faults.OWN, 5);
    }

    private static void faultAfterRefused(Check check) {
        Watched x = new Watched(check);
        x.module(0);
        x.constant(0, 6, 5, 0, 0);
        x.need(0, 0).failsBy(Faults.OWN);
        x.need(3, 0).isBad();
        x.need(0, 1).isBad();
        x.faultIs(Faults.OWN, 5, Faults.OWN, 5);
        x.start(3, 0).isBad();
        x.start(0, 1).isBad();
        x.faultIs(Faults.OWN, 5, Faults.OWN, 5);
        x.fault(4).isBad();
        x.faultIs(Faults.OWN, 5, Faults.OWN, 5);
    }

    private static void faultOfNeedAndStartAlone(Check check) {
        Watched x = new Watched(check);
        x.module(0);
        x.constant(0, 6, 5, 0, 0);
        x.constant(0, 6, 6, 0, 0);
        x.need(0, 0).failsBy(Faults.OWN);
        x.alike(1).is(0);
        x.faultIs(Faults.OWN, 5, Faults.OWN, 5);
        x.forget(0).is(1);
        x.faultIs(Faults.OWN, 5, Faults.OWN, 5);
    }

    private static void fourUnlike(Check check) {
        Watched x = new Watched(check);
        x.modules(3, 0);
        x.deed(2, 0, 39);
        x.start(0, 2).failsBy(Faults.START);
        x.fault(0).is(5);
        x.fault(1).is(2);
        x.fault(2).is(8);
        x.fault(3).is(39);
    }

    private static void faultOfNone(Check check) {
        Watched x = new Watched(check);
        x.noFault();
        x.module(0);
        x.constant(0, 6, 5, 0, 0);
        x.number(0, 8);
        x.constant(0, 5, 0, 9, 0);
        x.noFault();
        x.need(0, 0).failsBy(Faults.OWN);
        x.needIs(0, 1, 8);
        x.noFault();
        x.need(0, 0).failsBy(Faults.OWN);
        x.start(0, 0).is(1);
        x.noFault();
        x.needIs(1, 2, 9);
        x.noFault();
    }

    private static void badFault(Check check) {
        Watched x = new Watched(check);
        for (int what : new int[] {-1, 4, MIN, MAX}) {
            x.fault(what).isBad();
        }
        x.module(0);
        x.constant(0, 6, 5, 0, 0);
        x.need(0, 0).failsBy(Faults.OWN);
        for (int what : new int[] {-1, 4, MIN, MAX}) {
            x.fault(what).isBad();
        }
    }
}
