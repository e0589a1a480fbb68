import java.util.List;

/** Promises 1 to 6: a new object, and what is told to it. */
final class TellingSentences {
    private static final int MIN = Integer.MIN_VALUE;
    private static final int MAX = Integer.MAX_VALUE;
    private static final int[] FIRST_NAMED = {1, 2, 3, 4, 5, 7, 11};
    private static final int[] SECOND_NAMED = {2, 3, 7};
    private static final int[] NO_CONSTANTS = {-1, 40, MIN, MAX};

    private TellingSentences() { }

    static List<Section> all() {
        return List.of(newObject(), module(), item(), uses(), deed(), constant());
    }

    private static Section newObject() {
        Section promise = new Section("Promise 1: A new object");
        String quote = "No MODULES, no CONSTANTS; in all LOADERS nothing.";
        promise.test(quote, "what is asked of the empty object", TellingSentences::emptyAsked);
        promise.test(quote, "what is refused by the empty object", TellingSentences::emptyRefuses);
        promise.test(quote, "a second object has nothing of the first", TellingSentences::secondObject);
        return promise;
    }

    private static Section module() {
        Section promise = new Section("Promise 2: module");
        promise.test("A MODULE with a ROW of n items: its number.", "0, 8, and all between",
            TellingSentences::rowLengths);
        promise.test("BAD; FULL.", "BAD: n is below 0 or above 8", TellingSentences::badRowLengths);
        promise.test("BAD; FULL.", "FULL: twelve are there", TellingSentences::fullModules);
        promise.test("BAD; FULL.", "both: BAD", TellingSentences::badModuleWhenFull);
        return promise;
    }

    private static Section item() {
        Section promise = new Section("Promise 3: item");
        String quote = "Item i of a MODULE's ROW is v at first (in LOADERS that begin to start it later): 1.";
        promise.test(quote, "a LOADER that began before and one that begins later", TellingSentences::itemLater);
        promise.test(quote, "a LOADER where it is BROKEN", TellingSentences::itemOfBroken);
        promise.test("BAD.", "no such MODULE", TellingSentences::itemOfNoModule);
        promise.test("BAD.", "no such item", TellingSentences::noSuchItem);
        return promise;
    }

    private static Section uses() {
        Section promise = new Section("Promise 4: uses");
        String quote = "A MODULE USES another one (perhaps itself), too: how many it does.";
        promise.test(quote, "itself", TellingSentences::usesItself);
        promise.test(quote, "from none to six", TellingSentences::howManyUsed);
        promise.test("BAD; FULL.", "BAD: no such MODULE, on either side", TellingSentences::badUses);
        promise.test("BAD; FULL.", "FULL: six are there", TellingSentences::fullUses);
        promise.test("BAD; FULL.", "both: BAD", TellingSentences::badUsesWhenFull);
        return promise;
    }

    private static Section deed() {
        Section promise = new Section("Promise 5: deed");
        String quote = "A DEED more (kind 0 .. 2): how many there are.";
        String bad = "BAD: also, n is no CONSTANT's number 0 .. 39 (0), no MODULE (1); FULL.";
        promise.test(quote, "from none to six", TellingSentences::howManyDeeds);
        promise.test(quote, "a kind below 0 or above 2", TellingSentences::badDeedKind);
        promise.test(bad, "BAD: no such MODULE", TellingSentences::deedOfNoModule);
        promise.test(bad, "BAD: no CONSTANT's number", TellingSentences::deedOfNoConstant);
        promise.test(bad, "BAD: no MODULE to be started", TellingSentences::deedStartsNoModule);
        promise.test(bad, "a LIBRARY's number may be any", TellingSentences::libraryOfAnyNumber);
        promise.test(bad, "FULL: six are there", TellingSentences::fullDeeds);
        promise.test(bad, "both: BAD", TellingSentences::badDeedWhenFull);
        return promise;
    }

    private static Section constant() {
        Section promise = new Section("Promise 6: constant");
        String bad = "BAD: MODULE, KIND, a CONSTANT's number that is not 0 .. 39, in 8 to 10 no such MODULE; FULL.";
        promise.test("A CONSTANT: its number.", "the first and the last", TellingSentences::constantNumbers);
        promise.test(bad, "BAD: MODULE", TellingSentences::constantOfNoModule);
        promise.test(bad, "BAD: KIND", TellingSentences::constantOfNoKind);
        promise.test(bad, "BAD: a is no CONSTANT's number", TellingSentences::badFirstNumber);
        promise.test(bad, "BAD: b is no CONSTANT's number", TellingSentences::badSecondNumber);
        promise.test(bad, "BAD: c is no CONSTANT's number", TellingSentences::badThirdNumber);
        promise.test(bad, "BAD: in 8 to 10 no such MODULE", TellingSentences::badModuleNumber);
        promise.test(bad, "FULL: forty are there", TellingSentences::fullConstants);
        promise.test(bad, "both: BAD", TellingSentences::badConstantWhenFull);
        promise.test("What a KIND has not is not looked at.", "both ends", TellingSentences::notLookedAt);
        return promise;
    }

    private static void emptyAsked(Check check) {
        Watched x = new Watched(check);
        for (int what = 0; what <= 3; what++) {
            x.told(what).is(0);
            x.fault(what).is(0);
        }
        x.value().is(0);
        x.trace(0, 0).isNone();
        x.trace(0, 1).isNone();
        for (int loader = 0; loader <= 2; loader++) {
            x.forget(loader).is(0);
        }
        x.alike(7).is(0);
    }

    private static void emptyRefuses(Check check) {
        Watched x = new Watched(check);
        for (int loader = 0; loader <= 2; loader++) {
            x.need(loader, 0).isBad();
            x.start(loader, 0).isBad();
            x.state(loader, 0).isBad();
            x.kept(loader, 0).isBad();
            x.row(loader, 0, 0).isBad();
        }
        x.item(0, 0, 1).isBad();
        x.uses(0, 0).isBad();
        for (int kind = 0; kind <= 2; kind++) {
            x.deed(0, kind, 0).isBad();
        }
        for (int kind = 0; kind <= 11; kind++) {
            x.constant(0, kind, 0, 0, 0).isBad();
        }
        x.told(0).is(0);
        x.told(1).is(0);
    }

    private static void secondObject(Check check) {
        Watched first = new Watched(check);
        first.module(1);
        first.constant(0, 6, 5, 0, 0);
        first.number(0, 8);
        first.needIs(0, 1, 8);
        first.need(0, 0).failsBy(Faults.OWN);
        Watched second = new Watched(check);
        for (int what = 0; what <= 3; what++) {
            second.told(what).is(0);
            second.fault(what).is(0);
        }
        second.value().is(0);
        second.module(1).is(0);
        second.number(0, 3).is(0);
        second.state(0, 0).is(0);
        second.kept(0, 0).is(0);
        second.forget(0).is(0);
    }

    private static void rowLengths(Check check) {
        Watched x = new Watched(check);
        for (int n = 0; n <= 8; n++) {
            x.module(n).is(n);
            x.told(0).is(n + 1);
            x.row(0, n, n).isNone();
            x.item(n, n, 1).isBad();
            if (n > 0) {
                x.row(0, n, n - 1).is(0);
                x.item(n, n - 1, 1).is(1);
            }
        }
    }

    private static void badRowLengths(Check check) {
        Watched x = new Watched(check);
        x.module(2);
        x.unchangedBy(() -> {
            for (int n : new int[] {-1, 9, MIN, MAX}) {
                x.module(n).isBad();
            }
        });
        x.state(0, 1).isBad();
        x.module(8).is(1);
    }

    private static void fullModules(Check check) {
        Watched x = new Watched(check);
        for (int i = 0; i < 12; i++) {
            x.module(i % 3).is(i);
        }
        x.unchangedBy(() -> {
            x.module(0).isFull();
            x.module(8).isFull();
        });
        x.row(0, 0, 0).isNone();
        x.row(0, 11, 1).is(0);
        x.row(0, 11, 2).isNone();
    }

    private static void badModuleWhenFull(Check check) {
        Watched x = new Watched(check);
        x.modules(12, 0);
        x.module(9).isBad();
        x.module(-1).isBad();
    }

    private static void itemLater(Check check) {
        Watched x = new Watched(check);
        x.module(1);
        x.item(0, 0, 5).is(1);
        x.start(1, 0).is(1);
        x.item(0, 0, 6).is(1);
        x.row(1, 0, 0).is(5);
        x.row(2, 0, 0).is(6);
        x.start(2, 0).is(1);
        x.item(0, 0, 0).is(1);
        x.row(0, 0, 0).is(0);
        x.row(1, 0, 0).is(5);
        x.row(2, 0, 0).is(6);
        x.forget(1).is(1);
        x.row(1, 0, 0).is(0);
    }

    private static void itemOfBroken(Check check) {
        Watched x = new Watched(check);
        x.module(1);
        x.item(0, 0, 3);
        x.deed(0, 2, 9);
        x.start(0, 0).failsBy(Faults.START);
        x.item(0, 0, 4).is(1);
        x.row(0, 0, 0).is(3);
        x.row(1, 0, 0).is(4);
    }

    private static void itemOfNoModule(Check check) {
        Watched x = new Watched(check);
        x.modules(2, 8);
        x.unchangedBy(() -> {
            for (int module : new int[] {-1, 2, 12, MIN, MAX}) {
                x.item(module, 0, 7).isBad();
            }
        });
        x.module(8).is(2);
        x.row(0, 2, 0).is(0);
    }

    private static void noSuchItem(Check check) {
        Watched x = new Watched(check);
        x.module(3);
        x.module(8);
        x.module(0);
        x.unchangedBy(() -> {
            for (int i : new int[] {-1, 3, 8, MIN, MAX}) {
                x.item(0, i, 7).isBad();
            }
            x.item(1, 8, 7).isBad();
            x.item(1, -1, 7).isBad();
            x.item(2, 0, 7).isBad();
        });
        for (int i = 0; i < 3; i++) {
            x.row(0, 0, i).is(0);
            x.item(0, i, 7).is(1);
        }
        x.row(0, 1, 0).is(0);
        x.row(0, 1, 7).is(0);
    }

    private static void usesItself(Check check) {
        Watched x = new Watched(check);
        x.modules(2, 0);
        x.uses(1, 1).is(1);
        x.start(0, 1).is(1);
        x.traceIs(0, 1, 1, 1);
    }

    private static void howManyUsed(Check check) {
        Watched x = new Watched(check);
        x.modules(8, 0);
        for (int i = 1; i <= 6; i++) {
            x.uses(0, i + 1).is(i);
        }
        x.uses(1, 7).is(1);
        x.start(0, 0).is(1);
        x.state(0, 1).is(0);
        x.state(0, 2).is(1);
        x.state(0, 7).is(1);
    }

    private static void badUses(Check check) {
        Watched x = new Watched(check);
        x.modules(2, 0);
        for (int module : new int[] {-1, 2, 12, MIN, MAX}) {
            x.uses(module, 0).isBad();
            x.uses(0, module).isBad();
        }
        x.uses(0, 1).is(1);
        x.start(0, 0).is(1);
        x.traceIs(0, 0, 0, 1, 1, 1, 1, 0);
    }

    private static void fullUses(Check check) {
        Watched x = new Watched(check);
        x.modules(3, 0);
        for (int i = 1; i <= 6; i++) {
            x.uses(0, 1).is(i);
        }
        x.uses(0, 2).isFull();
        x.uses(0, 0).isFull();
        x.start(0, 0).is(1);
        x.traceIs(0, 0, 0, 1, 1, 1, 1, 0);
        x.uses(1, 2).is(1);
        x.start(1, 1).is(1);
        x.traceIs(0, 1, 0, 2, 1, 2, 1, 1);
    }

    private static void badUsesWhenFull(Check check) {
        Watched x = new Watched(check);
        x.module(0);
        for (int i = 1; i <= 6; i++) {
            x.uses(0, 0).is(i);
        }
        x.uses(0, 1).isBad();
        x.uses(0, -1).isBad();
    }

    private static void howManyDeeds(Check check) {
        Watched x = new Watched(check);
        x.modules(2, 0);
        for (int i = 1; i <= 6; i++) {
            x.deed(0, i % 3, 0).is(i);
        }
        x.deed(1, 0, 0).is(1);
    }

    private static void badDeedKind(Check check) {
        Watched x = new Watched(check);
        x.module(0);
        for (int kind : new int[] {-1, 3, MIN, MAX}) {
            x.deed(0, kind, 0).isBad();
        }
        x.deed(0, 1, 0).is(1);
        x.start(0, 0).is(1);
    }

    private static void deedOfNoModule(Check check) {
        Watched x = new Watched(check);
        x.modules(2, 0);
        for (int module : new int[] {-1, 2, 12, MIN, MAX}) {
            for (int kind = 0; kind <= 2; kind++) {
                x.deed(module, kind, 0).isBad();
            }
        }
        x.deed(1, 1, 0).is(1);
        x.module(0).is(2);
        x.start(0, 2).is(1);
        x.traceIs(0, 2, 1, 2);
    }

    private static void deedOfNoConstant(Check check) {
        Watched x = new Watched(check);
        x.module(0);
        for (int n : NO_CONSTANTS) {
            x.deed(0, 0, n).isBad();
        }
        x.start(0, 0).is(1);
        x.traceIs(0, 0, 1, 0);
        x.deed(0, 0, 0).is(1);
        x.deed(0, 0, 39).is(2);
    }

    private static void deedStartsNoModule(Check check) {
        Watched x = new Watched(check);
        x.modules(2, 0);
        for (int n : new int[] {-1, 2, 11, 12, MIN, MAX}) {
            x.deed(0, 1, n).isBad();
        }
        x.start(0, 0).is(1);
        x.traceIs(0, 0, 1, 0);
        x.deed(0, 1, 0).is(1);
        x.deed(0, 1, 1).is(2);
    }

    private static void libraryOfAnyNumber(Check check) {
        Watched x = new Watched(check);
        int[] numbers = {0, -1, 40, MIN, MAX};
        for (int i = 0; i < numbers.length; i++) {
            x.module(0);
            x.deed(i, 2, numbers[i]).is(1);
            x.start(0, i).failsBy(Faults.START);
            x.faultIs(Faults.START, i, Faults.LIBRARY, numbers[i]);
        }
    }

    private static void fullDeeds(Check check) {
        Watched x = new Watched(check);
        x.modules(2, 0);
        for (int i = 1; i <= 6; i++) {
            x.deed(0, 1, 0).is(i);
        }
        x.deed(0, 2, 5).isFull();
        x.deed(0, 1, 1).isFull();
        x.deed(0, 0, 39).isFull();
        x.start(0, 0).is(1);
        x.traceIs(0, 0, 1, 0);
        x.deed(1, 2, 5).is(1);
    }

    private static void badDeedWhenFull(Check check) {
        Watched x = new Watched(check);
        x.module(0);
        for (int i = 1; i <= 6; i++) {
            x.deed(0, 1, 0).is(i);
        }
        x.deed(0, 0, 40).isBad();
        x.deed(0, 1, 1).isBad();
        x.deed(0, 3, 0).isBad();
    }

    private static void constantNumbers(Check check) {
        Watched x = new Watched(check);
        x.modules(12, 0);
        for (int i = 0; i < 40; i++) {
            x.number(i % 12, i).is(i);
            x.told(1).is(i + 1);
        }
        x.needIs(0, 0, 0);
        x.state(0, 3).is(0);
        x.needIs(0, 39, 39);
        x.state(0, 3).is(1);
    }

    private static void constantOfNoModule(Check check) {
        Watched x = new Watched(check);
        x.modules(2, 0);
        x.unchangedBy(() -> {
            for (int module : new int[] {-1, 2, 12, MIN, MAX}) {
                x.number(module, 1).isBad();
            }
        });
        x.number(1, 1).is(0);
    }

    private static void constantOfNoKind(Check check) {
        Watched x = new Watched(check);
        x.module(0);
        x.unchangedBy(() -> {
            for (int kind : new int[] {-1, 12, MIN, MAX}) {
                x.constant(0, kind, 0, 0, 0).isBad();
            }
        });
        x.constant(0, 11, 0, 0, 0).is(0);
    }

    private static void badFirstNumber(Check check) {
        Watched x = new Watched(check);
        x.module(0);
        for (int kind : FIRST_NAMED) {
            for (int n : NO_CONSTANTS) {
                x.constant(0, kind, n, 0, 0).isBad();
            }
        }
        x.told(1).is(0);
        for (int i = 0; i < FIRST_NAMED.length; i++) {
            x.constant(0, FIRST_NAMED[i], 0, 0, 0).is(2 * i);
            x.constant(0, FIRST_NAMED[i], 39, 0, 0).is(2 * i + 1);
        }
    }

    private static void badSecondNumber(Check check) {
        Watched x = new Watched(check);
        x.module(0);
        for (int kind : SECOND_NAMED) {
            for (int n : NO_CONSTANTS) {
                x.constant(0, kind, 0, n, 0).isBad();
            }
        }
        x.told(1).is(0);
        for (int i = 0; i < SECOND_NAMED.length; i++) {
            x.constant(0, SECOND_NAMED[i], 0, 0, 0).is(2 * i);
            x.constant(0, SECOND_NAMED[i], 0, 39, 0).is(2 * i + 1);
        }
    }

    private static void badThirdNumber(Check check) {
        Watched x = new Watched(check);
        x.module(0);
        for (int n : NO_CONSTANTS) {
            x.constant(0, 7, 0, 0, n).isBad();
        }
        x.told(1).is(0);
        x.constant(0, 7, 0, 0, 0).is(0);
        x.constant(0, 7, 0, 0, 39).is(1);
    }

    private static void badModuleNumber(Check check) {
        Watched x = new Watched(check);
        x.modules(2, 0);
        for (int kind = 8; kind <= 10; kind++) {
            for (int module : new int[] {-1, 2, 11, 12, MIN, MAX}) {
                x.constant(0, kind, module, 0, 0).isBad();
            }
        }
        x.told(1).is(0);
        for (int kind = 8; kind <= 10; kind++) {
            x.constant(1, kind, 0, 0, 0).is(2 * (kind - 8));
            x.constant(0, kind, 1, 0, 0).is(2 * (kind - 8) + 1);
        }
    }

    private static void fullConstants(Check check) {
        Watched x = new Watched(check);
        x.modules(2, 0);
        for (int i = 0; i < 40; i++) {
            x.constant(0, 9, i % 2, 0, 0).is(i);
        }
        x.constant(1, 6, 5, 0, 0).isFull();
        x.number(0, 5).isFull();
        x.told(1).is(40);
        x.needIs(0, 0, 40);
        x.needIs(0, 39, 0);
    }

    private static void badConstantWhenFull(Check check) {
        Watched x = new Watched(check);
        x.module(0);
        for (int i = 0; i < 40; i++) {
            x.number(0, i);
        }
        x.number(1, 0).isBad();
        x.constant(0, 12, 0, 0, 0).isBad();
        x.constant(0, 1, 40, 0, 0).isBad();
        x.constant(0, 8, 1, 0, 0).isBad();
    }

    private static void notLookedAt(Check check) {
        Watched x = new Watched(check);
        x.module(0);
        int[] ends = {MIN, MAX};
        for (int end : ends) {
            x.constant(0, 0, end, end, end);
            x.constant(0, 1, 39, end, end);
            x.constant(0, 2, 39, 39, end);
            x.constant(0, 3, 39, 39, end);
            x.constant(0, 4, 39, end, end);
            x.constant(0, 5, 39, end, end);
            x.constant(0, 6, end, end, end);
            x.constant(0, 8, 0, end, end);
            x.constant(0, 9, 0, end, end);
            x.constant(0, 10, 0, end, end);
            x.constant(0, 11, 39, end, end);
        }
        x.told(1).is(22);
        x.needIs(0, 0, MIN);
        x.needIs(0, 7, 1);
        x.needIs(0, 8, 22);
        x.needIs(0, 9, 1);
    }
}
