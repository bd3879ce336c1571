/** Promises 1 to 6: one method for each sentence that has an edge. */
final class EdgesOfChangesTest {
    private static final int BAD = Given.BAD;
    private static final int FULL = Given.FULL;
    private static final int LIFT = Given.LIFT;
    private static final int BRIM = 10_000_000;
    private static final int[] MOST_TIMES = {1000, 1000, 1000, 1000, 100};

    public static void main(String[] args) {
        newObjectHasNone();
        numbersOfSketches(1);
        numbersOfSketches(8);
        sortsAreFive();
        eightAreMade();
        eightAreCopied();
        badIsNamedBeforeFull();
        refusedOnesTakeNoNumber();
        clearOfNothing();
        clearTellsTheLeastAndTheMostTotal();
        for (int sort = 0; sort < Given.SORTS; sort++) {
            copyOfNothing(sort);
            copyOfAFullOne(sort);
            clearOfAFullOne(sort);
            clearMakesRoom(sort);
            comesJustToTheBrim(sort, 1);
            comesJustToTheBrim(sort, MOST_TIMES[sort]);
            comesOverTheBrim(sort);
            badComesBeforeFull(sort);
            madeOneJustToTheBrim(sort);
            madeOneOverTheBrim(sort);
            madeOneWithTheBrim(sort);
            badOnesBeforeFull(sort);
        }
        takenBackToTheBrim();
        oneAloneIsNotMadeOne();
        Check.end();
    }

    /** Two LIKE ones and a third to help. */
    private static Counted threeOf(int sort) {
        Counted spans = Given.oneOf(sort, Given.SMALLEST[sort], 3);
        spans.sketch(sort, Given.SMALLEST[sort], 3);
        spans.sketch(sort, Given.SMALLEST[sort], 3);
        return spans;
    }

    /** Promise 1: "No SKETCHES." */
    private static void newObjectHasNone() {
        Counted spans = new Counted();
        spans.due(0, spans.count());
        noneSuch(spans, -1);
        noneSuch(spans, 0);
        spans.due(0, spans.sketch(Given.HEAVY, 1, 0));
    }

    /** "none such": every call that names a SKETCH. */
    private static void noneSuch(Counted spans, int s) {
        spans.due(BAD, spans.copy(s));
        spans.due(BAD, spans.clear(s));
        spans.due(BAD, spans.come(s, 0, 1));
        spans.due(BAD, spans.merge(s, 0));
        spans.due(BAD, spans.merge(0, s));
        spans.due(BAD, spans.merge(s, s));
        spans.due(BAD, spans.low(s, 0));
        spans.due(BAD, spans.high(s, 0));
        spans.due(BAD, spans.has(s, 0));
        spans.due(BAD, spans.distinct(s));
        spans.due(BAD, spans.quantile(s, 1));
        for (int what = 0; what <= 6; what++) {
            spans.due(BAD, spans.told(s, what));
        }
        spans.due(BAD, spans.kept(s, 0, 0));
        spans.due(BAD, spans.kept(s, -1, 0));
    }

    /** The numbers go from 0 to one below how many there are. */
    private static void numbersOfSketches(int many) {
        Counted spans = new Counted();
        for (int s = 0; s < many; s++) {
            spans.due(s, spans.sketch(Given.RANKS, 4, s));
        }
        for (int s : new int[] {0, many - 1}) {
            spans.due(s, spans.told(s, 2));
            spans.due(LIFT + 1, spans.come(s, 9, 1));
            spans.due(1, spans.low(s, 9));
            spans.due(1, spans.high(s, 9));
            spans.due(9, spans.quantile(s, 1));
            spans.due(9, spans.kept(s, 0, 0));
            spans.due(LIFT + 1, spans.clear(s));
        }
        for (int s : new int[] {Integer.MIN_VALUE, -1, many, Integer.MAX_VALUE}) {
            noneSuch(spans, s);
        }
        spans.due(many, spans.count());
    }

    /** Promise 2: "BAD: another SORT" */
    private static void sortsAreFive() {
        Counted spans = new Counted();
        spans.due(BAD, spans.sketch(-1, 16, 0));
        spans.due(0, spans.sketch(0, 16, 0));
        spans.due(1, spans.sketch(1, 16, 0));
        spans.due(2, spans.sketch(2, 16, 0));
        spans.due(3, spans.sketch(3, 16, 0));
        spans.due(4, spans.sketch(4, 16, 0));
        spans.due(BAD, spans.sketch(5, 16, 0));
        for (int sort = 0; sort < Given.SORTS; sort++) {
            spans.due(sort, spans.told(sort, 0));
        }
        spans.due(5, spans.count());
    }

    /** Promise 2: "FULL: 8." */
    private static void eightAreMade() {
        for (int sort = 0; sort < Given.SORTS; sort++) {
            Counted spans = new Counted();
            for (int i = 0; i < 7; i++) {
                spans.sketch(sort, 16, 0);
            }
            spans.due(7, spans.sketch(sort, 16, 0));
            spans.due(FULL, spans.sketch(sort, 16, 0));
            spans.due(FULL, spans.copy(0));
            spans.due(8, spans.count());
            spans.due(LIFT, spans.clear(7));
            spans.due(FULL, spans.sketch(sort, 16, 0));
        }
    }

    /** Promise 3: "FULL: 8." */
    private static void eightAreCopied() {
        for (int sort = 0; sort < Given.SORTS; sort++) {
            Counted spans = Given.oneOf(sort, 16, 7);
            spans.come(0, 9, 5);
            for (int i = 1; i < 7; i++) {
                spans.copy(i - 1);
            }
            spans.due(7, spans.copy(6));
            spans.due(LIFT + 5, spans.told(7, 3));
            spans.due(7, spans.told(7, 2));
            spans.due(FULL, spans.copy(7));
            spans.due(FULL, spans.sketch(sort, 16, 7));
            spans.due(8, spans.count());
        }
    }

    /** Promises 2 and 3 name BAD first. */
    private static void badIsNamedBeforeFull() {
        Counted spans = new Counted();
        for (int i = 0; i < 8; i++) {
            spans.sketch(Given.FILTER, 16, 0);
        }
        spans.due(BAD, spans.sketch(-1, 16, 0));
        spans.due(BAD, spans.sketch(5, 16, 0));
        spans.due(BAD, spans.sketch(Given.FILTER, 15, 0));
        spans.due(BAD, spans.sketch(Given.FILTER, 513, 0));
        spans.due(BAD, spans.sketch(Given.RANKS, 17, 0));
        spans.due(BAD, spans.sketch(Given.FILTER, 16, -1));
        spans.due(BAD, spans.sketch(Given.FILTER, 16, 1000));
        spans.due(FULL, spans.sketch(Given.FILTER, 16, 999));
        spans.due(BAD, spans.copy(-1));
        spans.due(BAD, spans.copy(8));
        spans.due(FULL, spans.copy(0));
        spans.due(FULL, spans.copy(7));
    }

    private static void refusedOnesTakeNoNumber() {
        Counted spans = new Counted();
        spans.due(BAD, spans.sketch(Given.HEAVY, 21, 0));
        spans.due(BAD, spans.copy(0));
        spans.due(0, spans.sketch(Given.HEAVY, 20, 0));
        spans.due(BAD, spans.sketch(Given.HEAVY, 0, 0));
        spans.due(BAD, spans.copy(1));
        spans.due(1, spans.copy(0));
        spans.due(2, spans.sketch(Given.HEAVY, 1, 0));
        spans.due(3, spans.count());
    }

    /** So much that COUNTERS are LOST, HASHES fall off and TURNS are at 1. */
    private static void comeOften(Counted spans, int s) {
        for (int i = 0; i < 21; i++) {
            spans.come(s, 37 * i % 23, 1 + i % 2);
        }
        spans.come(s, 1, 5);
    }

    /** Promise 3: "A SKETCH more, as one is", to which nothing came. */
    private static void copyOfNothing(int sort) {
        Counted spans = Given.oneOf(sort, Given.SMALLEST[sort], 3);
        spans.due(1, spans.copy(0));
        Check.holds("sort " + sort + " copied empty", Given.all(spans, 0).equals(Given.all(spans, 1)));
        comeOften(spans, 1);
        spans.due(LIFT, spans.told(0, 3));
        spans.due(0, spans.told(0, 6));
        comeOften(spans, 0);
        Check.holds("sort " + sort + " goes on from empty", Given.all(spans, 0).equals(Given.all(spans, 1)));
    }

    /** Promise 3: one at the brim, with all that it keeps: the copy is at the brim too. */
    private static void copyOfAFullOne(int sort) {
        Counted spans = threeOf(sort);
        Given.moveTo(spans, 0, 1, 5, MOST_TIMES[sort], BRIM - 50);
        comeOften(spans, 0);
        spans.come(0, 4, BRIM - spans.told(0, 4));
        spans.due(3, spans.copy(0));
        var before = Given.all(spans, 0);
        Check.holds("sort " + sort + " copied full", before.equals(Given.all(spans, 3)));
        spans.due(FULL, spans.come(3, 5, 1));
        spans.due(LIFT + BRIM, spans.clear(0));
        Check.holds("the copy stays, sort " + sort, before.equals(Given.all(spans, 3)));
        spans.due(LIFT + BRIM, spans.clear(3));
    }

    /** Promise 4: "Nothing came to a SKETCH (it is as it was made)": TURNS too, which only later calls show. */
    private static void clearOfAFullOne(int sort) {
        Counted spans = threeOf(sort);
        comeOften(spans, 0);
        comeOften(spans, 2);
        // 11 times 1, 10 times 2, and 5.
        spans.due(LIFT + 36, spans.clear(0));
        Check.holds("sort " + sort + " is as made", Given.all(spans, 0).equals(Given.all(spans, 1)));
        comeOften(spans, 0);
        Check.holds("sort " + sort + " starts anew", Given.all(spans, 0).equals(Given.all(spans, 2)));
    }

    /** Promise 4: "TOTAL that it had, and 10,000,000", where it had none. */
    private static void clearOfNothing() {
        for (int sort = 0; sort < Given.SORTS; sort++) {
            Counted spans = Given.oneOf(sort, 16, 7);
            spans.due(LIFT, spans.clear(0));
            spans.due(LIFT + 1, spans.come(0, 9, 1));
            spans.due(LIFT + 1, spans.clear(0));
            spans.due(LIFT, spans.clear(0));
            spans.due(sort, spans.told(0, 0));
            spans.due(16, spans.told(0, 1));
            spans.due(7, spans.told(0, 2));
            spans.due(1, spans.count());
        }
    }

    private static void clearTellsTheLeastAndTheMostTotal() {
        Counted spans = threeOf(Given.TABLE);
        Given.moveTo(spans, 0, 1, 5, -1000, BRIM);
        spans.due(0, spans.told(0, 3));
        spans.due(0, spans.clear(0));
        Given.moveTo(spans, 0, 1, 5, 1000, BRIM);
        spans.due(LIFT + BRIM, spans.told(0, 3));
        spans.due(LIFT + BRIM, spans.clear(0));
        spans.due(LIFT, spans.told(0, 3));
    }

    /** Promise 4: "it is as it was made", so MOVED is 0. */
    private static void clearMakesRoom(int sort) {
        Counted spans = threeOf(sort);
        Given.moveTo(spans, 0, 1, 5, MOST_TIMES[sort], BRIM);
        spans.due(FULL, spans.come(0, 5, 1));
        spans.due(LIFT + BRIM, spans.clear(0));
        spans.due(0, spans.told(0, 4));
        spans.due(LIFT + 1, spans.come(0, 5, 1));
        spans.come(2, 5, 1);
        Check.holds("sort " + sort + " is as a new one", Given.all(spans, 0).equals(Given.all(spans, 2)));
    }

    /** Promise 5: "FULL: MOVED would be above 10,000,000": just there it is not. */
    private static void comesJustToTheBrim(int sort, int n) {
        Counted spans = threeOf(sort);
        Given.moveTo(spans, 0, 1, 5, MOST_TIMES[sort], BRIM - n);
        spans.due(LIFT + BRIM, spans.come(0, 6, n));
        spans.due(BRIM, spans.told(0, 4));
        spans.due(FULL, spans.come(0, 6, 1));
        spans.due(FULL, spans.come(0, 6, n));
        spans.due(BRIM, spans.told(0, 4));
        spans.due(LIFT + BRIM, spans.told(0, 3));
    }

    /** One above it is, and a smaller n may come still. */
    private static void comesOverTheBrim(int sort) {
        int most = MOST_TIMES[sort];
        Counted spans = threeOf(sort);
        Given.moveTo(spans, 0, 1, 5, most, BRIM - most + 1);
        var before = Given.all(spans, 0);
        spans.due(FULL, spans.come(0, 6, most));
        Check.holds("FULL changes nothing, sort " + sort, before.equals(Given.all(spans, 0)));
        spans.due(LIFT + BRIM, spans.come(0, 6, most - 1));
        spans.due(FULL, spans.come(0, 6, 1));
    }

    private static void takenBackToTheBrim() {
        Counted spans = threeOf(Given.TABLE);
        Given.moveTo(spans, 0, 1, 5, 1000, BRIM - 999);
        spans.due(FULL, spans.come(0, 5, -1000));
        spans.due(LIFT + BRIM - 2 * 999, spans.come(0, 5, -999));
        spans.due(BRIM, spans.told(0, 4));
        spans.due(FULL, spans.come(0, 5, -1));
        spans.due(FULL, spans.come(0, 5, 1));
        spans.due(BAD, spans.come(0, 5, -1001));
        spans.due(BAD, spans.come(0, 5, 0));
        spans.due(LIFT + BRIM - 2 * 999, spans.told(0, 3));
    }

    /** Promise 5 names BAD first. */
    private static void badComesBeforeFull(int sort) {
        Counted spans = threeOf(sort);
        Given.moveTo(spans, 0, 1, 5, MOST_TIMES[sort], BRIM);
        spans.due(BAD, spans.come(0, -1, 1));
        spans.due(FULL, spans.come(0, 0, 1));
        spans.due(FULL, spans.come(0, 9999, 1));
        spans.due(BAD, spans.come(0, 10000, 1));
        spans.due(BAD, spans.come(0, 5, 0));
        spans.due(FULL, spans.come(0, 5, MOST_TIMES[sort]));
        spans.due(BAD, spans.come(0, 5, MOST_TIMES[sort] + 1));
        spans.due(BAD, spans.come(0, 5, -1001));
        spans.due(BAD, spans.come(3, 5, 1));
        spans.due(BAD, spans.come(-1, 5, 1));
        // Another one is not full for that.
        spans.due(LIFT + 1, spans.come(1, 5, 1));
    }

    /** Promise 6: "FULL: MOVED (of both) would be above 10,000,000": just there it is not. */
    private static void madeOneJustToTheBrim(int sort) {
        Counted spans = threeOf(sort);
        Given.moveTo(spans, 0, 2, 5, MOST_TIMES[sort], 6_000_001);
        Given.moveTo(spans, 1, 2, 6, MOST_TIMES[sort], 3_999_999);
        spans.due(LIFT + BRIM, spans.merge(0, 1));
        spans.due(BRIM, spans.told(0, 4));
        spans.due(3_999_999, spans.told(1, 4));
        spans.due(FULL, spans.merge(0, 1));
        spans.due(FULL, spans.come(0, 5, 1));
    }

    /** One above it is, from either side. */
    private static void madeOneOverTheBrim(int sort) {
        Counted spans = threeOf(sort);
        Given.moveTo(spans, 0, 2, 5, MOST_TIMES[sort], 6_000_001);
        Given.moveTo(spans, 1, 2, 6, MOST_TIMES[sort], 4_000_000);
        var one = Given.all(spans, 0);
        var other = Given.all(spans, 1);
        spans.due(FULL, spans.merge(0, 1));
        spans.due(FULL, spans.merge(1, 0));
        Check.holds("FULL changes nothing, sort " + sort, one.equals(Given.all(spans, 0)));
        Check.holds("nor the other, sort " + sort, other.equals(Given.all(spans, 1)));
    }

    /** One at the brim with an empty one, and with one to which one came. */
    private static void madeOneWithTheBrim(int sort) {
        Counted spans = threeOf(sort);
        Given.moveTo(spans, 0, 1, 5, MOST_TIMES[sort], BRIM);
        spans.due(LIFT + BRIM, spans.merge(0, 1));
        spans.due(LIFT + BRIM, spans.merge(1, 0));
        spans.due(FULL, spans.merge(0, 1));
        spans.due(LIFT + 1, spans.come(2, 9, 1));
        spans.due(FULL, spans.merge(0, 2));
        spans.due(FULL, spans.merge(2, 0));
        spans.due(1, spans.told(2, 4));
    }

    /** Promise 6 names BAD first: "none such, one alone, not LIKE". */
    private static void badOnesBeforeFull(int sort) {
        Counted spans = threeOf(sort);
        int size = Given.SMALLEST[sort] + 2;
        spans.sketch(sort, size, 3);
        spans.sketch(sort, size, 3);
        Given.moveTo(spans, 0, 1, 5, MOST_TIMES[sort], BRIM);
        Given.moveTo(spans, 3, 4, 5, MOST_TIMES[sort], BRIM);
        spans.due(BAD, spans.merge(0, 0));
        spans.due(BAD, spans.merge(0, 3));
        spans.due(BAD, spans.merge(3, 0));
        spans.due(BAD, spans.merge(0, 5));
        spans.due(BAD, spans.merge(5, 0));
        spans.due(BAD, spans.merge(0, -1));
        spans.due(5, spans.copy(0));
        spans.due(FULL, spans.merge(0, 5));
        spans.due(FULL, spans.merge(5, 0));
    }

    /** Promise 6: "one alone", with room and with nothing in it. */
    private static void oneAloneIsNotMadeOne() {
        for (int sort = 0; sort < Given.SORTS; sort++) {
            Counted spans = threeOf(sort);
            spans.due(BAD, spans.merge(0, 0));
            spans.come(2, 9, 3);
            spans.due(BAD, spans.merge(2, 2));
            spans.due(LIFT + 3, spans.told(2, 3));
            spans.due(LIFT + 3, spans.merge(1, 2));
            // Two that are the same in all are not one.
            spans.due(LIFT + 6, spans.merge(1, 2));
            spans.due(3, spans.told(2, 4));
        }
    }
}
