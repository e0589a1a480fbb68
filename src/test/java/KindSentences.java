import java.util.List;

/** Terms: the kinds of constants, each at its edges. */
final class KindSentences {
    private static final int MIN = Integer.MIN_VALUE;
    private static final int MAX = Integer.MAX_VALUE;

    private static final String QUOTIENT = "3 CONSTANT a by CONSTANT b, cut toward 0 (ZERO)";
    private static final String ITEM = "4 the item of its MODULE's ROW at CONSTANT a (PLACE)";
    private static final String RESCUE = "5 CONSTANT a; if that fails: the number b";
    private static final String CHOICE = "7 CONSTANT b, if CONSTANT a is not 0, else CONSTANT c";
    private static final String STATE = "8 of MODULE a: 0 nothing yet, 1 it is STARTED, 2 STARTING, 3 BROKEN";
    private static final String SIZE = "9 how many CONSTANTS MODULE a has";
    private static final String STORE = "11 item b of its MODULE's ROW becomes CONSTANT a: that (PLACE)";

    private KindSentences() { }

    static List<Section> all() {
        Section terms = new Section("Terms");
        terms.test("A CONSTANT is of a MODULE and has a KIND", "a KIND below 0 or above 11", KindSentences::kinds);
        terms.test("0 the number a", "0, and both ends", KindSentences::numbers);
        terms.test("1 CONSTANT a and the number b, together", "the number 0, one below 0", KindSentences::sums);
        terms.test("2 CONSTANT a times CONSTANT b", "by 0, by itself", KindSentences::products);
        terms.test(QUOTIENT, "cut toward 0, whatever the signs", KindSentences::quotients);
        terms.test(QUOTIENT, "by 0", KindSentences::quotientsByZero);
        terms.test(ITEM, "the first and the last item", KindSentences::items);
        terms.test(ITEM, "below the first and beyond the last", KindSentences::noItems);
        terms.test(RESCUE, "each FAULT there is", KindSentences::rescuesEach);
        terms.test(RESCUE, "no FAULT, though the VALUE is 0", KindSentences::rescuesNoValue);
        terms.test("6 OWN (the number a)", "the number 0, and both ends", KindSentences::own);
        terms.test(CHOICE, "0, and next to 0", KindSentences::choices);
        terms.test(CHOICE, "what is not chosen is not NEEDED", KindSentences::unchosen);
        terms.test(STATE, "each of the four", KindSentences::states);
        terms.test(SIZE, "none, and all 40", KindSentences::sizes);
        terms.test("10 MODULE a is started: 1", "begun, STARTED, STARTING or BROKEN", KindSentences::starts);
        terms.test(STORE, "the first and the last item", KindSentences::stores);
        terms.test(STORE, "below the first and beyond the last", KindSentences::storesNowhere);
        return List.of(terms);
    }

    private static void kinds(Check check) {
        Watched x = new Watched(check);
        x.module(1);
        for (int kind : new int[] {-1, 12, MIN, MAX}) {
            x.constant(0, kind, 0, 0, 0).isBad();
        }
        for (int kind = 0; kind <= 11; kind++) {
            x.constant(0, kind, 0, 0, 0).is(kind);
        }
    }

    private static void numbers(Check check) {
        Watched x = new Watched(check);
        x.module(0);
        int[] numbers = {0, -1, MIN, MAX};
        for (int i = 0; i < numbers.length; i++) {
            x.number(0, numbers[i]).is(i);
            x.needIs(1, i, numbers[i]);
        }
    }

    private static void sums(Check check) {
        Watched x = new Watched(check);
        x.module(0);
        x.number(0, 1);
        x.constant(0, 1, 0, 0, 0);
        x.constant(0, 1, 0, -1, 0);
        x.constant(0, 1, 0, -2, 0);
        x.needIs(0, 1, 1);
        x.needIs(0, 2, 0);
        x.needIs(0, 3, -1);
    }

    private static void products(Check check) {
        Watched x = new Watched(check);
        x.module(0);
        x.number(0, 0);
        x.number(0, -7);
        x.constant(0, 2, 1, 0, 0);
        x.constant(0, 2, 0, 1, 0);
        x.constant(0, 2, 1, 1, 0);
        x.needIs(0, 2, 0);
        x.needIs(0, 3, 0);
        x.needIs(0, 4, 49);
    }

    private static void quotients(Check check) {
        Watched x = new Watched(check);
        x.module(0);
        int[][] rows = {
            {7, 2, 3}, {-7, 2, -3}, {7, -2, -3}, {-7, -2, 3}, {1, 2, 0}, {-1, 2, 0}, {0, 5, 0}, {1, MIN, 0},
            {MIN, MIN, 1}, {MAX, MIN, 0}, {MIN, MAX, -1}, {MIN, 1, MIN}, {MAX, -1, -MAX}};
        for (int i = 0; i < rows.length; i++) {
            x.number(0, rows[i][0]);
            x.number(0, rows[i][1]);
            x.constant(0, 3, 3 * i, 3 * i + 1, 0);
            x.needIs(0, 3 * i + 2, rows[i][2]);
        }
    }

    private static void quotientsByZero(Check check) {
        Watched x = new Watched(check);
        x.module(0);
        x.number(0, 0);
        int[] numbers = {1, -1, 0, MIN, MAX};
        for (int i = 0; i < numbers.length; i++) {
            x.number(0, numbers[i]);
            x.constant(0, 3, 2 * i + 1, 0, 0);
            x.need(0, 2 * i + 2).failsBy(Faults.ZERO);
            x.faultIs(Faults.ZERO, 0, Faults.ZERO, 0);
        }
    }

    /** Its module's row, not that of the module of the constant that tells the place. */
    private static void items(Check check) {
        Watched x = new Watched(check);
        x.modules(2, 3);
        for (int i = 0; i < 3; i++) {
            x.item(0, i, 50 + i);
            x.item(1, i, 60 + i);
            x.number(1, i);
        }
        x.constant(0, 4, 0, 0, 0);
        x.constant(0, 4, 2, 0, 0);
        x.needIs(0, 3, 50);
        x.needIs(0, 4, 52);
    }

    private static void noItems(Check check) {
        Watched x = new Watched(check);
        x.module(3);
        x.module(8);
        int[] places = {-1, 3, 8, MIN, MAX};
        for (int i = 0; i < places.length; i++) {
            x.number(1, places[i]);
            x.constant(0, 4, 2 * i, 0, 0);
            x.need(0, 2 * i + 1).failsBy(Faults.PLACE);
            x.faultIs(Faults.PLACE, 0, Faults.PLACE, 0);
        }
    }

    private static void rescuesEach(Check check) {
        Watched x = new Watched(check);
        x.module(0);
        x.module(0);
        x.deed(1, 2, 3);
        x.number(0, 0);
        x.constant(0, 3, 0, 0, 0);
        x.constant(0, 4, 0, 0, 0);
        x.constant(0, 6, 1, 0, 0);
        x.constant(0, 5, 4, 104, 0);
        x.number(1, 9);
        int[] failing = {1, 2, 3, 39};
        for (int i = 0; i < failing.length; i++) {
            x.constant(0, 5, failing[i], 100 + i, 0).is(6 + i);
            x.needIs(0, 6 + i, 100 + i);
        }
        x.needIs(0, 4, 104);
        x.constant(0, 5, 5, 105, 0).is(10);
        x.constant(0, 5, 5, 106, 0).is(11);
        x.needIs(0, 10, 105);
        x.state(0, 1).is(3);
        x.needIs(0, 11, 106);
        x.noFault();
        x.kept(0, 1).is(10 + Faults.ZERO);
        x.kept(0, 3).is(10 + Faults.OWN);
        x.kept(0, 5).is(0);
    }

    private static void rescuesNoValue(Check check) {
        Watched x = new Watched(check);
        x.module(0);
        x.number(0, 0);
        x.constant(0, 5, 0, 8, 0);
        x.needIs(0, 1, 0);
        x.constant(0, 5, 1, 8, 0);
        x.needIs(0, 2, 0);
    }

    private static void own(Check check) {
        Watched x = new Watched(check);
        x.module(0);
        int[] numbers = {0, -1, MIN, MAX};
        for (int i = 0; i < numbers.length; i++) {
            x.constant(0, 6, numbers[i], 0, 0);
            x.need(0, i).failsBy(Faults.OWN);
            x.faultIs(Faults.OWN, numbers[i], Faults.OWN, numbers[i]);
        }
    }

    private static void choices(Check check) {
        Watched x = new Watched(check);
        x.module(0);
        x.number(0, 11);
        x.number(0, 22);
        int[] numbers = {0, 1, -1, MIN, MAX};
        for (int i = 0; i < numbers.length; i++) {
            x.number(0, numbers[i]);
            x.constant(0, 7, 2 * i + 2, 0, 1);
            x.needIs(0, 2 * i + 3, numbers[i] == 0 ? 22 : 11);
        }
    }

    private static void unchosen(Check check) {
        Watched x = new Watched(check);
        x.module(0);
        x.number(0, 0);
        x.number(0, 1);
        x.number(0, 5);
        x.constant(0, 6, 4, 0, 0);
        x.constant(0, 7, 0, 3, 2);
        x.constant(0, 7, 1, 2, 3);
        x.constant(0, 7, 3, 2, 2);
        x.needIs(0, 4, 5);
        x.needIs(0, 5, 5);
        x.kept(0, 3).is(0);
        x.need(1, 6).failsBy(Faults.OWN);
        x.kept(1, 2).is(0);
    }

    private static void states(Check check) {
        Watched x = new Watched(check);
        x.modules(3, 0);
        x.constant(0, 8, 1, 0, 0);
        x.needIs(0, 0, 0);
        x.state(0, 1).is(0);
        x.constant(0, 8, 1, 0, 0);
        x.start(0, 1).is(1);
        x.needIs(0, 1, 1);
        x.constant(0, 8, 1, 0, 0);
        x.deed(1, 0, 2);
        x.start(1, 1).is(1);
        x.needIs(1, 2, 2);
        x.constant(0, 8, 2, 0, 0);
        x.deed(2, 2, 9);
        x.start(0, 2).failsBy(Faults.START);
        x.needIs(0, 3, 3);
    }

    private static void sizes(Check check) {
        Watched x = new Watched(check);
        x.modules(2, 0);
        x.constant(0, 9, 1, 0, 0);
        x.constant(0, 9, 0, 0, 0);
        x.needIs(0, 0, 0);
        x.needIs(0, 1, 2);

        Watched full = new Watched(check);
        full.module(0);
        for (int i = 0; i < 40; i++) {
            full.constant(0, 9, 0, 0, 0);
        }
        full.constant(0, 9, 0, 0, 0).isFull();
        full.needIs(0, 39, 40);
    }

    private static void starts(Check check) {
        Watched x = new Watched(check);
        x.modules(3, 0);
        x.constant(0, 10, 1, 0, 0);
        x.constant(0, 10, 1, 0, 0);
        x.constant(0, 10, 0, 0, 0);
        x.constant(0, 10, 2, 0, 0);
        x.constant(0, 10, 2, 0, 0);
        x.deed(0, 0, 2);
        x.deed(2, 2, 6);
        x.needIs(0, 0, 1);
        x.state(0, 1).is(1);
        x.needIs(0, 1, 1);
        x.needIs(0, 2, 1);
        x.need(0, 3).failsBy(Faults.START);
        x.need(0, 4).failsBy(Faults.GONE);
    }

    private static void stores(Check check) {
        Watched x = new Watched(check);
        x.modules(2, 3);
        x.number(1, 70);
        x.constant(0, 11, 0, 0, 0);
        x.constant(0, 11, 0, 2, 0);
        x.needIs(0, 1, 70);
        x.row(0, 0, 0).is(70);
        x.row(0, 0, 2).is(0);
        x.needIs(0, 2, 70);
        x.row(0, 0, 2).is(70);
        x.row(0, 0, 1).is(0);
        x.row(0, 1, 0).is(0);
        x.row(1, 0, 0).is(0);
    }

    private static void storesNowhere(Check check) {
        Watched x = new Watched(check);
        x.module(3);
        x.number(0, 70);
        int[] places = {-1, 3, 8, MIN, MAX};
        for (int i = 0; i < places.length; i++) {
            x.constant(0, 11, 0, places[i], 0).is(i + 1);
            x.need(0, i + 1).failsBy(Faults.PLACE);
            x.faultIs(Faults.PLACE, 0, Faults.PLACE, 0);
        }
        for (int i = 0; i < 3; i++) {
            x.row(0, 0, i).is(0);
        }
    }
}
