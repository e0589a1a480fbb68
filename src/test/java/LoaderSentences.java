import java.util.List;

/** Terms, the second part: what happens in a loader, the faults, and the trace. */
final class LoaderSentences {
    private static final String NEEDED = "A CONSTANT is NEEDED: its MODULE is started";
    private static final String AGAIN = "if it was worked: the VALUE that came out, or its FAULT again";
    private static final String ENDLESS = "if it is being worked: ENDLESS";
    private static final String WORKED = "else it is worked: the CONSTANTS of its KIND are NEEDED";
    private static final String LEFT = "the CONSTANTS of its KIND are NEEDED, from left to right (of 5, 7 as told)";
    private static final String KEPT = "What comes out, VALUE or FAULT, is kept.";
    private static final String NOT_KEPT = "(What its MODULE's start fails by is not.)";
    private static final String NOTHING = "A MODULE is started: if it is STARTED or STARTING: nothing.";
    private static final String GONE = "BROKEN: GONE.";
    private static final String AS_TOLD = "Else it is STARTING, its ROW as told";
    private static final String ORDER = "the MODULES that it USES are started, in order; then its DEEDS are done";
    private static final String DEEDS = "0 CONSTANT n is NEEDED; 1 MODULE n is started; 2 LIBRARY (the number n)";
    private static final String BREAKS = "If one of these fails it is BROKEN: START.";
    private static final String NUMBERS = "FAULTS, with a NUMBER: 1 ZERO, 2 PLACE, 3 OWN (its number), "
        + "4 ENDLESS (the CONSTANT that is being worked), 5 START (the MODULE), 6 GONE (the MODULE), "
        + "7 LIBRARY (its number), 8 MISSING (the CONSTANT, that is not there); of 1, 2 0.";
    private static final String CAUSE = "CAUSE of a START: the CAUSE of what failed in it; of any other FAULT: itself.";
    private static final String TRACE = "THE TRACE of the latest call of need() or start(): what came, in order";
    private static final String ENTRIES = "200 entries at most (the first ones)";
    private static final String WHAT_CAME = "0 a MODULE begins to start, 1 it is STARTED, 2 it is BROKEN; "
        + "3 a CONSTANT begins to be worked, 4 a VALUE came out, 5 a FAULT; each with the number of that one.";

    private LoaderSentences() { }

    static List<Section> all() {
        Section terms = new Section("Terms");
        terms.test("IN A LOADER, all for itself", "the others have nothing of it", LoaderSentences::forItself);
        addNeeded(terms);
        addStarted(terms);
        terms.test(NUMBERS, "each of the eight", LoaderSentences::faultNumbers);
        terms.test(CAUSE, "twelve STARTS in one another", LoaderSentences::causeOfTwelve);
        terms.test(CAUSE, "a START by what is GONE, and GONE itself", LoaderSentences::causeOfGone);
        terms.test(CAUSE, "a START by a FAULT that is told again", LoaderSentences::causeToldAgain);
        terms.test(TRACE, "none before the first call, and none where nothing came", LoaderSentences::emptyTrace);
        terms.test(TRACE, "a call that is refused leaves it", LoaderSentences::traceOfRefused);
        terms.test(TRACE, "forget and alike leave it", LoaderSentences::traceOfNeedAndStartAlone);
        terms.test(ENTRIES, "all 104 that one call can bring", LoaderSentences::longestTrace);
        terms.test(WHAT_CAME, "each of the six", LoaderSentences::sixThatCome);
        return List.of(terms);
    }

    private static void addNeeded(Section terms) {
        terms.test(NEEDED, "one that is worked while its MODULE is STARTING", LoaderSentences::moduleFirst);
        terms.test(NEEDED, "one that was worked before its MODULE broke", LoaderSentences::moduleBroken);
        terms.test(AGAIN, "a VALUE of 0", LoaderSentences::valueAgain);
        terms.test(AGAIN, "a FAULT with its NUMBER and CAUSE", LoaderSentences::faultAgain);
        terms.test(ENDLESS, "a ring of one", LoaderSentences::ringOfOne);
        terms.test(ENDLESS, "a ring of all 40", LoaderSentences::ringOfForty);
        terms.test(ENDLESS, "a ring through a start", LoaderSentences::ringThroughStart);
        terms.test(WORKED, "all starts and all workings open at once", LoaderSentences::deepest);
        terms.test(WORKED, "though there is no item to be read or to become it", LoaderSentences::neededForNoItem);
        terms.test(LEFT, "each KIND that has more than one", LoaderSentences::leftToRight);
        terms.test(LEFT, "one of them fails", LoaderSentences::oneFails);
        terms.test(LEFT, "both fail", LoaderSentences::bothFail);
        terms.test(KEPT, "though it would come out otherwise now", LoaderSentences::keptForGood);
        terms.test(NOT_KEPT, "the first time and later", LoaderSentences::startNotKept);
        terms.test(NOT_KEPT, "but by one that needs it", LoaderSentences::startKeptByAnother);
    }

    private static void addStarted(Section terms) {
        terms.test(NOTHING, "STARTED, with more told since", LoaderSentences::startedOnce);
        terms.test(NOTHING, "STARTING: itself, and a ring of twelve", LoaderSentences::ringOfModules);
        terms.test(GONE, "by start, need, kind 10, USES and a DEED", LoaderSentences::goneForAll);
        terms.test(AS_TOLD, "as told at the last moment before it begins", LoaderSentences::rowAsTold);
        terms.test(ORDER, "USES that were told after the DEEDS", LoaderSentences::usesBeforeDeeds);
        terms.test(DEEDS, "each of the three", LoaderSentences::threeDeeds);
        terms.test(BREAKS, "by the first of six USES", LoaderSentences::firstUseBreaks);
        terms.test(BREAKS, "by the last of six USES", LoaderSentences::lastUseBreaks);
        terms.test(BREAKS, "by the first of six DEEDS", LoaderSentences::firstDeedBreaks);
        terms.test(BREAKS, "by the last of six DEEDS", LoaderSentences::lastDeedBreaks);
        terms.test(BREAKS, "in a ring, while the other one is STARTED", LoaderSentences::ringBreaks);
    }

    private static void forItself(Check check) {
        Watched x = new Watched(check);
        x.modules(2, 1);
        x.deed(1, 2, 3);
        x.number(0, 9);
        x.constant(0, 11, 0, 0, 0);
        for (int loader = 0; loader <= 2; loader++) {
            for (int other = loader; other <= 2; other++) {
                x.state(other, 0).is(0);
                x.state(other, 1).is(0);
                x.kept(other, 1).is(0);
                x.row(other, 0, 0).is(0);
            }
            x.needIs(loader, 1, 9);
            x.traceIs(0, 0, 1, 0, 3, 1, 3, 0, 4, 0, 4, 1);
            x.start(loader, 1).failsBy(Faults.START);
            x.row(loader, 0, 0).is(9);
        }
    }

    private static void moduleFirst(Check check) {
        Watched x = new Watched(check);
        x.module(0);
        x.number(0, 3);
        x.constant(0, 1, 0, 4, 0);
        x.deed(0, 0, 1);
        x.needIs(0, 0, 3);
        x.traceIs(0, 0, 3, 1, 3, 0, 4, 0, 4, 1, 1, 0);
    }

    private static void moduleBroken(Check check) {
        Watched x = new Watched(check);
        x.module(0);
        x.number(0, 3);
        x.deed(0, 0, 0);
        x.deed(0, 2, 8);
        x.need(0, 0).failsBy(Faults.START);
        x.kept(0, 0).is(1);
        x.need(0, 0).failsBy(Faults.GONE);
        x.value().is(0);
    }

    private static void valueAgain(Check check) {
        Watched x = new Watched(check);
        x.module(1);
        x.number(0, 0);
        x.constant(0, 4, 0, 0, 0);
        x.number(0, 6);
        x.constant(0, 11, 2, 0, 0);
        x.needIs(0, 1, 0);
        x.needIs(0, 3, 6);
        x.told(3).is(4);
        x.needIs(0, 1, 0);
        x.traceIs();
        x.told(3).is(4);
    }

    private static void faultAgain(Check check) {
        Watched x = new Watched(check);
        x.modules(2, 0);
        x.deed(1, 2, 9);
        x.constant(0, 10, 1, 0, 0);
        x.constant(0, 1, 0, 1, 0);
        x.need(0, 1).failsBy(Faults.START);
        x.start(0, 0).is(1);
        x.noFault();
        for (int constant = 0; constant <= 1; constant++) {
            x.need(0, constant).failsBy(Faults.START);
            x.faultIs(Faults.START, 1, Faults.LIBRARY, 9);
            x.traceIs();
        }
        x.told(3).is(2);
    }

    private static void ringOfOne(Check check) {
        for (int kind : new int[] {1, 2, 3, 4, 7, 11}) {
            Watched x = new Watched(check);
            x.module(1);
            x.constant(0, kind, 0, 0, 0);
            x.need(0, 0).failsBy(Faults.ENDLESS);
            x.faultIs(Faults.ENDLESS, 0, Faults.ENDLESS, 0);
            x.kept(0, 0).is(10 + Faults.ENDLESS);
            x.traceIs(0, 0, 1, 0, 3, 0, 5, 0);
        }
    }

    private static void ringOfForty(Check check) {
        Watched x = new Watched(check);
        x.module(0);
        for (int i = 0; i < 40; i++) {
            x.constant(0, 1, (i + 1) % 40, 1, 0).is(i);
        }
        x.need(0, 17).failsBy(Faults.ENDLESS);
        x.faultIs(Faults.ENDLESS, 17, Faults.ENDLESS, 17);
        for (int i = 0; i < 40; i++) {
            x.kept(0, i).is(10 + Faults.ENDLESS);
        }
        x.need(0, 16).failsBy(Faults.ENDLESS);
        x.fault(1).is(17);
        x.told(3).is(40);
    }

    /** The constant starts a module whose start needs the constant. */
    private static void ringThroughStart(Check check) {
        Watched x = new Watched(check);
        x.modules(2, 0);
        x.constant(0, 10, 1, 0, 0);
        x.deed(1, 0, 0);
        x.need(0, 0).failsBy(Faults.START);
        x.faultIs(Faults.START, 1, Faults.ENDLESS, 0);
        x.traceIs(0, 0, 1, 0, 3, 0, 0, 1, 2, 1, 5, 0);
        x.start(1, 1).is(1);
        x.needIs(1, 0, 1);
    }

    private static void leftToRight(Check check) {
        for (int kind = 2; kind <= 3; kind++) {
            Watched x = new Watched(check);
            x.module(0);
            x.constant(0, kind, 2, 1, 0);
            x.number(0, 1);
            x.number(0, 2);
            x.needIs(0, 0, 2);
            x.traceIs(0, 0, 1, 0, 3, 0, 3, 2, 4, 2, 3, 1, 4, 1, 4, 0);
        }
        Watched x = new Watched(check);
        x.module(0);
        x.constant(0, 7, 3, 2, 1);
        x.number(0, 1);
        x.number(0, 2);
        x.number(0, 3);
        x.needIs(0, 0, 2);
        x.traceIs(0, 0, 1, 0, 3, 0, 3, 3, 4, 3, 3, 2, 4, 2, 4, 0);
    }

    /**
     * Each module's start needs a constant of the next module; the last one needs constant 12, and from
     * there all forty stand open: 12 .. 39, 0 .. 11.
     */
    private static void deepest(Check check) {
        Watched x = new Watched(check);
        x.modules(12, 0);
        for (int i = 0; i < 12; i++) {
            x.deed(i, 0, i + 1);
        }
        for (int i = 0; i < 40; i++) {
            x.constant(Math.min(i, 11), i == 11 ? 0 : 1, i == 11 ? 5 : (i + 1) % 40, 1, 0);
        }
        x.needIs(0, 0, 16);
        x.told(2).is(104);
        x.needIs(0, 11, 5);
        x.needIs(0, 12, 44);
        x.start(1, 0).is(1);
        x.told(2).is(104);
        x.alike(3).is(0);
    }

    private static void neededForNoItem(Check check) {
        Watched x = new Watched(check);
        x.module(0);
        x.number(0, 3);
        x.constant(0, 6, 8, 0, 0);
        for (int kind : new int[] {4, 11}) {
            for (int named = 0; named <= 1; named++) {
                x.constant(0, kind, named, 0, 0);
            }
        }
        for (int loader = 0; loader <= 1; loader++) {
            x.need(loader, 2 + 2 * loader).failsBy(Faults.PLACE);
            x.kept(loader, 0).is(1);
            x.need(loader, 3 + 2 * loader).failsBy(Faults.OWN);
        }
    }

    private static void oneFails(Check check) {
        Watched x = new Watched(check);
        x.module(1);
        x.number(0, 0);
        x.number(0, 1);
        x.constant(0, 6, 8, 0, 0);
        int[][] formulas = {
            {1, 2, 0, 0}, {2, 2, 1, 0}, {2, 1, 2, 0}, {3, 2, 1, 0}, {3, 1, 2, 0}, {4, 2, 0, 0}, {7, 2, 1, 1},
            {7, 1, 2, 1}, {7, 0, 1, 2}, {11, 2, 0, 0}};
        for (int i = 0; i < formulas.length; i++) {
            int[] f = formulas[i];
            x.constant(0, f[0], f[1], f[2], f[3]).is(i + 3);
            x.need(0, i + 3).failsBy(Faults.OWN);
            x.faultIs(Faults.OWN, 8, Faults.OWN, 8);
            x.kept(0, i + 3).is(10 + Faults.OWN);
        }
        x.row(0, 0, 0).is(0);
    }

    private static void bothFail(Check check) {
        Watched x = new Watched(check);
        x.module(1);
        x.constant(0, 6, 8, 0, 0);
        x.constant(0, 6, 9, 0, 0);
        for (int kind = 2; kind <= 3; kind++) {
            x.constant(0, kind, 1, 0, 0).is(kind);
            x.need(0, kind).failsBy(Faults.OWN);
            x.faultIs(Faults.OWN, 9, Faults.OWN, 9);
        }
    }

    private static void keptForGood(Check check) {
        Watched x = new Watched(check);
        x.modules(2, 0);
        x.constant(0, 1, 2, 5, 0);
        x.constant(0, 9, 1, 0, 0);
        x.need(0, 0).failsBy(Faults.MISSING);
        x.needIs(0, 1, 0);
        x.number(1, 2).is(2);
        x.need(0, 0).failsBy(Faults.MISSING);
        x.faultIs(Faults.MISSING, 2, Faults.MISSING, 2);
        x.needIs(0, 1, 0);
        x.kept(0, 0).is(10 + Faults.MISSING);
        x.kept(0, 1).is(1);
        x.needIs(1, 0, 7);
        x.needIs(1, 1, 1);
    }

    private static void startNotKept(Check check) {
        Watched x = new Watched(check);
        x.module(0);
        x.deed(0, 2, 4);
        x.number(0, 6);
        x.need(0, 0).failsBy(Faults.START);
        x.traceIs(0, 0, 2, 0);
        x.kept(0, 0).is(0);
        x.need(0, 0).failsBy(Faults.GONE);
        x.traceIs();
        x.kept(0, 0).is(0);
        x.told(3).is(0);
    }

    private static void startKeptByAnother(Check check) {
        Watched x = new Watched(check);
        x.modules(2, 0);
        x.deed(1, 2, 8);
        x.constant(0, 1, 1, 0, 0);
        x.number(1, 5);
        x.need(0, 0).failsBy(Faults.START);
        x.kept(0, 0).is(10 + Faults.START);
        x.kept(0, 1).is(0);
        x.need(0, 1).failsBy(Faults.GONE);
        x.need(0, 0).failsBy(Faults.START);
    }

    private static void startedOnce(Check check) {
        Watched x = new Watched(check);
        x.modules(2, 1);
        x.start(0, 0).is(1);
        x.uses(0, 1);
        x.deed(0, 2, 4);
        x.item(0, 0, 5);
        x.start(0, 0).is(1);
        x.traceIs();
        x.row(0, 0, 0).is(0);
        x.state(0, 1).is(0);
        x.state(0, 0).is(1);
        x.start(1, 0).failsBy(Faults.START);
    }

    private static void ringOfModules(Check check) {
        Watched x = new Watched(check);
        x.modules(12, 0);
        for (int i = 0; i < 12; i++) {
            x.uses(i, i);
            x.uses(i, (i + 1) % 12);
            x.deed(i, 1, i);
        }
        x.start(0, 3).is(1);
        x.told(2).is(24);
        for (int i = 0; i < 12; i++) {
            x.trace(i, 0).is(0);
            x.trace(i, 1).is((3 + i) % 12);
            x.trace(23 - i, 0).is(1);
            x.trace(23 - i, 1).is((3 + i) % 12);
            x.state(0, i).is(1);
        }
    }

    private static void goneForAll(Check check) {
        Watched x = new Watched(check);
        x.modules(4, 0);
        x.deed(1, 2, 8);
        x.number(1, 0);
        x.constant(0, 10, 1, 0, 0);
        x.uses(2, 1);
        x.deed(3, 1, 1);
        x.start(0, 1).failsBy(Faults.START);
        x.start(0, 1).failsBy(Faults.GONE);
        x.faultIs(Faults.GONE, 1, Faults.GONE, 1);
        x.traceIs();
        x.need(0, 0).failsBy(Faults.GONE);
        x.faultIs(Faults.GONE, 1, Faults.GONE, 1);
        x.need(0, 1).failsBy(Faults.GONE);
        x.faultIs(Faults.GONE, 1, Faults.GONE, 1);
        x.start(0, 2).failsBy(Faults.START);
        x.faultIs(Faults.START, 2, Faults.GONE, 1);
        x.start(0, 3).failsBy(Faults.START);
        x.faultIs(Faults.START, 3, Faults.GONE, 1);
    }

    private static void rowAsTold(Check check) {
        Watched x = new Watched(check);
        x.module(2);
        x.item(0, 1, 4);
        x.item(0, 1, 5);
        x.number(0, 9);
        x.constant(0, 11, 0, 0, 0);
        x.deed(0, 0, 1);
        x.start(0, 0).is(1);
        x.row(0, 0, 0).is(9);
        x.row(0, 0, 1).is(5);
        x.item(0, 1, 6);
        x.row(0, 0, 1).is(5);
        x.forget(0).is(1);
        x.row(0, 0, 0).is(0);
        x.start(0, 0).is(1);
        x.row(0, 0, 0).is(9);
        x.row(0, 0, 1).is(6);
    }

    private static void usesBeforeDeeds(Check check) {
        Watched x = new Watched(check);
        x.modules(4, 0);
        x.deed(0, 1, 1);
        x.uses(0, 3);
        x.uses(0, 2);
        x.start(0, 0).is(1);
        x.traceIs(0, 0, 0, 3, 1, 3, 0, 2, 1, 2, 0, 1, 1, 1, 1, 0);
    }

    private static void threeDeeds(Check check) {
        Watched x = new Watched(check);
        x.modules(2, 0);
        x.number(0, 7);
        x.deed(0, 0, 0);
        x.deed(0, 1, 1);
        x.start(0, 0).is(1);
        x.traceIs(0, 0, 3, 0, 4, 0, 0, 1, 1, 1, 1, 0);
        x.deed(0, 2, 0);
        x.start(1, 0).failsBy(Faults.START);
        x.faultIs(Faults.START, 0, Faults.LIBRARY, 0);
        x.traceIs(0, 0, 3, 0, 4, 0, 0, 1, 1, 1, 2, 0);
    }

    private static void firstUseBreaks(Check check) {
        Watched x = new Watched(check);
        x.modules(7, 0);
        for (int i = 1; i <= 6; i++) {
            x.uses(0, i);
        }
        x.deed(1, 2, 5);
        x.start(0, 0).failsBy(Faults.START);
        x.faultIs(Faults.START, 0, Faults.LIBRARY, 5);
        x.traceIs(0, 0, 0, 1, 2, 1, 2, 0);
        x.state(0, 2).is(0);
        x.state(0, 6).is(0);
    }

    private static void lastUseBreaks(Check check) {
        Watched x = new Watched(check);
        x.modules(8, 0);
        for (int i = 1; i <= 6; i++) {
            x.uses(0, i);
        }
        x.deed(0, 1, 7);
        x.deed(6, 2, 5);
        x.start(0, 0).failsBy(Faults.START);
        x.faultIs(Faults.START, 0, Faults.LIBRARY, 5);
        x.state(0, 0).is(3);
        x.state(0, 5).is(1);
        x.state(0, 6).is(3);
        x.state(0, 7).is(0);
    }

    private static void firstDeedBreaks(Check check) {
        Watched x = new Watched(check);
        x.modules(3, 0);
        x.constant(1, 6, -4, 0, 0);
        x.number(1, 1);
        x.uses(0, 1);
        x.deed(0, 0, 0);
        for (int i = 0; i < 4; i++) {
            x.deed(0, 0, 1);
        }
        x.deed(0, 1, 2);
        x.start(0, 0).failsBy(Faults.START);
        x.faultIs(Faults.START, 0, Faults.OWN, -4);
        x.traceIs(0, 0, 0, 1, 1, 1, 3, 0, 5, 0, 2, 0);
        x.state(0, 0).is(3);
        x.state(0, 1).is(1);
        x.state(0, 2).is(0);
        x.kept(0, 1).is(0);
    }

    private static void lastDeedBreaks(Check check) {
        Watched x = new Watched(check);
        x.module(0);
        for (int i = 0; i < 5; i++) {
            x.number(0, i);
            x.deed(0, 0, i);
        }
        x.deed(0, 2, 6).is(6);
        x.start(0, 0).failsBy(Faults.START);
        x.state(0, 0).is(3);
        for (int i = 0; i < 5; i++) {
            x.kept(0, i).is(1);
        }
    }

    private static void ringBreaks(Check check) {
        Watched x = new Watched(check);
        x.modules(2, 0);
        x.uses(0, 1);
        x.uses(1, 0);
        x.deed(0, 2, 6);
        x.start(0, 0).failsBy(Faults.START);
        x.state(0, 0).is(3);
        x.state(0, 1).is(1);
        x.start(0, 1).is(1);
        x.start(1, 1).failsBy(Faults.START);
        x.faultIs(Faults.START, 1, Faults.LIBRARY, 6);
        x.state(1, 0).is(3);
        x.state(1, 1).is(3);
    }

    private static void faultNumbers(Check check) {
        Watched x = new Watched(check);
        x.modules(3, 0);
        x.deed(2, 2, 77);
        x.number(1, 0);
        x.constant(1, 3, 0, 0, 0);
        x.constant(1, 4, 0, 0, 0);
        x.constant(1, 6, 66, 0, 0);
        x.constant(1, 1, 4, 0, 0);
        x.constant(1, 10, 2, 0, 0);
        x.constant(1, 10, 2, 0, 0);
        x.constant(1, 1, 38, 0, 0);
        int[][] due = {
            {1, 0, 1, 0}, {2, 0, 2, 0}, {3, 66, 3, 66}, {4, 4, 4, 4}, {5, 2, 7, 77}, {6, 2, 6, 2}, {8, 38, 8, 38}};
        for (int i = 0; i < due.length; i++) {
            x.need(0, i + 1).failsBy(due[i][0]);
            x.faultIs(due[i][0], due[i][1], due[i][2], due[i][3]);
        }
        x.start(1, 2).failsBy(Faults.START);
        x.faultIs(Faults.START, 2, Faults.LIBRARY, 77);
    }

    private static void causeOfTwelve(Check check) {
        Watched x = new Watched(check);
        x.modules(12, 0);
        for (int i = 0; i < 11; i++) {
            x.uses(i, i + 1);
        }
        x.deed(11, 2, -4);
        x.start(0, 0).failsBy(Faults.START);
        x.faultIs(Faults.START, 0, Faults.LIBRARY, -4);
        x.told(2).is(24);
        for (int i = 0; i < 12; i++) {
            x.trace(12 + i, 0).is(2);
            x.trace(12 + i, 1).is(11 - i);
            x.state(0, i).is(3);
        }
    }

    private static void causeOfGone(Check check) {
        Watched x = new Watched(check);
        x.modules(3, 0);
        x.uses(0, 1);
        x.uses(1, 2);
        x.deed(2, 2, 5);
        x.start(0, 2).failsBy(Faults.START);
        x.faultIs(Faults.START, 2, Faults.LIBRARY, 5);
        x.start(0, 0).failsBy(Faults.START);
        x.faultIs(Faults.START, 0, Faults.GONE, 2);
        x.start(0, 0).failsBy(Faults.GONE);
        x.faultIs(Faults.GONE, 0, Faults.GONE, 0);
    }

    private static void causeToldAgain(Check check) {
        Watched x = new Watched(check);
        x.modules(3, 0);
        x.deed(1, 2, 5);
        x.constant(0, 10, 1, 0, 0);
        x.deed(2, 0, 0);
        x.need(0, 0).failsBy(Faults.START);
        x.start(0, 2).failsBy(Faults.START);
        x.faultIs(Faults.START, 2, Faults.LIBRARY, 5);
    }

    private static void emptyTrace(Check check) {
        Watched x = new Watched(check);
        x.traceIs();
        x.module(0);
        x.number(0, 1);
        x.traceIs();
        x.start(0, 0).is(1);
        x.traceIs(0, 0, 1, 0);
        x.start(0, 0).is(1);
        x.traceIs();
        x.need(0, 0).is(1);
        x.traceIs(3, 0, 4, 0);
        x.need(0, 0).is(1);
        x.traceIs();
    }

    private static void traceOfRefused(Check check) {
        Watched x = new Watched(check);
        x.module(0);
        x.constant(0, 6, 1, 0, 0);
        x.need(0, 0).failsBy(Faults.OWN);
        x.need(3, 0).isBad();
        x.need(0, 1).isBad();
        x.start(-1, 0).isBad();
        x.start(0, 1).isBad();
        x.traceIs(0, 0, 1, 0, 3, 0, 5, 0);
    }

    private static void traceOfNeedAndStartAlone(Check check) {
        Watched x = new Watched(check);
        x.module(0);
        x.number(0, 1);
        x.needIs(0, 0, 1);
        x.alike(1).is(0);
        x.traceIs(0, 0, 1, 0, 3, 0, 4, 0);
        x.forget(0).is(1);
        x.traceIs(0, 0, 1, 0, 3, 0, 4, 0);
    }

    /** Each module and each constant comes twice at most, so no call can bring 200. */
    private static void longestTrace(Check check) {
        Watched x = new Watched(check);
        x.modules(12, 0);
        for (int i = 0; i < 11; i++) {
            x.uses(i, i + 1);
        }
        for (int i = 0; i < 39; i++) {
            x.constant(0, 1, i + 1, 1, 0);
        }
        x.number(0, 0);
        x.needIs(0, 0, 39);
        x.told(2).is(104);
        for (int i = 0; i < 104; i++) {
            boolean starts = i < 24;
            int at = starts ? i : i - 24;
            int half = starts ? 12 : 40;
            x.trace(i, 0).is((starts ? 0 : 3) + at / half);
            x.trace(i, 1).is(at < half ? at : 2 * half - 1 - at);
        }
        x.trace(104, 0).isNone();
        x.trace(199, 0).isNone();
        x.trace(200, 0).isNone();
    }

    private static void sixThatCome(Check check) {
        Watched x = new Watched(check);
        x.modules(3, 0);
        x.uses(0, 1);
        x.deed(2, 2, 4);
        x.number(2, 5);
        x.constant(1, 1, 0, 1, 0);
        x.constant(0, 5, 1, 6, 0);
        x.needIs(0, 2, 6);
        x.traceIs(0, 0, 0, 1, 1, 1, 1, 0, 3, 2, 3, 1, 0, 2, 2, 2, 5, 1, 4, 2);
    }
}
