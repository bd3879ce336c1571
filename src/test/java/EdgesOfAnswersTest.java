/** Promises 7 to 15: one method for each sentence that has an edge and is not one SORT's own. */
final class EdgesOfAnswersTest {
    private static final int BAD = Given.BAD;
    private static final int LIFT = Given.LIFT;

    public static void main(String[] args) {
        hashNeedsNoSketch();
        lowIsOfTwoSorts();
        lowOfHeavy();
        highIsOfThreeSorts();
        highOfHeavy();
        highOfTableIsTheLeast();
        hasIsOfTwoSorts();
        distinctIsOfOneSort();
        distinctAtSize(2);
        distinctAtSize(32);
        quantileIsOfOneSort();
        quantileOfOne();
        toldIsOfSevenNumbers();
        toldOfNothing();
        keptOfHeavy();
        keptOfTable();
        keptOfFilter();
        keptOfLeast();
        keptOfRanks();
        keptOfNothing();
        countGoesToEight();
        Check.end();
    }

    private static Counted withOneKey(int sort) {
        Counted spans = Given.oneOf(sort, 16, 0);
        spans.come(0, 3, 2);
        return spans;
    }

    /** Promise 7: its BAD names no SKETCH. */
    private static void hashNeedsNoSketch() {
        Counted spans = new Counted();
        spans.due(1, spans.hash(0, 0, 0));
        spans.due(0, spans.count());
        spans.due(BAD, spans.hash(-1, -1, -1));
        spans.due(BAD, spans.hash(1000, 4, 10000));
        spans.due(BAD, spans.hash(Integer.MAX_VALUE, 0, 0));
        spans.due(BAD, spans.hash(0, Integer.MAX_VALUE, 0));
        spans.due(BAD, spans.hash(0, 0, Integer.MAX_VALUE));
        spans.due(BAD, spans.hash(Integer.MIN_VALUE, Integer.MIN_VALUE, Integer.MIN_VALUE));
    }

    /** Promise 8: "another SORT" */
    private static void lowIsOfTwoSorts() {
        int[] want = {2, BAD, BAD, BAD, 2};
        for (int sort = 0; sort < Given.SORTS; sort++) {
            Counted spans = withOneKey(sort);
            spans.due(want[sort], spans.low(0, 3));
            spans.clear(0);
            spans.due(want[sort] == BAD ? BAD : 0, spans.low(0, 3));
        }
    }

    /** Promise 8: "its NUMBER (0 without)": the KEYS just beside one that has a COUNTER. */
    private static void lowOfHeavy() {
        Counted spans = Given.oneOf(Given.HEAVY, 2, 0);
        spans.come(0, 0, 1000);
        spans.come(0, 9999, 1);
        spans.due(1000, spans.low(0, 0));
        spans.due(0, spans.low(0, 1));
        spans.due(0, spans.low(0, 9998));
        spans.due(1, spans.low(0, 9999));
        spans.come(0, 5, 1);
        spans.due(999, spans.low(0, 0));
        spans.due(0, spans.low(0, 5));
        spans.due(0, spans.low(0, 9999));
    }

    /** Promise 9: "BAD: as of low()", but TABLE has an answer here. */
    private static void highIsOfThreeSorts() {
        int[] want = {2, 2, BAD, BAD, 2};
        for (int sort = 0; sort < Given.SORTS; sort++) {
            Counted spans = withOneKey(sort);
            spans.due(want[sort], spans.high(0, 3));
            spans.clear(0);
            spans.due(want[sort] == BAD ? BAD : 0, spans.high(0, 3));
        }
    }

    /** Promise 9: "NUMBER and LOST", of a KEY without a COUNTER LOST alone. */
    private static void highOfHeavy() {
        Counted spans = Given.oneOf(Given.HEAVY, 1, 0);
        spans.come(0, 7, 5);
        spans.due(5, spans.high(0, 7));
        spans.due(0, spans.high(0, 6));
        spans.come(0, 6, 5);
        // Both are gone, and each came 5 times.
        spans.due(5, spans.high(0, 7));
        spans.due(5, spans.high(0, 6));
        spans.due(5, spans.high(0, 0));
        spans.due(5, spans.high(0, 9999));
        spans.due(0, spans.low(0, 7));
    }

    /** Promise 9: "the least of its four CELLS", whichever of the rows has it. */
    private static void highOfTableIsTheLeast() {
        for (int row = 0; row < 4; row++) {
            Counted spans = Given.oneOf(Given.TABLE, 64, 0);
            spans.come(0, 0, 10);
            int other = 1;
            while (!meetsOnlyIn(row, 64, 0, other)) {
                other++;
            }
            spans.come(0, other, -1);
            spans.due(9, spans.high(0, 0));
            spans.come(0, other, 2);
            spans.due(10, spans.high(0, 0));
        }
    }

    private static boolean meetsOnlyIn(int row, int size, int x, int other) {
        boolean only = true;
        for (int j = 0; j < 4; j++) {
            boolean meets = Given.hash(0, j, x) % size == Given.hash(0, j, other) % size;
            only &= meets == (j == row);
        }
        return only;
    }

    /** Promise 10: "another SORT" */
    private static void hasIsOfTwoSorts() {
        int[] want = {BAD, BAD, 1, 1, BAD};
        for (int sort = 0; sort < Given.SORTS; sort++) {
            Counted spans = withOneKey(sort);
            spans.due(want[sort], spans.has(0, 3));
            spans.clear(0);
            spans.due(want[sort] == BAD ? BAD : 0, spans.has(0, 3));
        }
    }

    /** Promise 11: "another SORT" */
    private static void distinctIsOfOneSort() {
        for (int sort = 0; sort < Given.SORTS; sort++) {
            Counted spans = withOneKey(sort);
            spans.due(sort == Given.LEAST ? 1 : BAD, spans.distinct(0));
            spans.clear(0);
            spans.due(sort == Given.LEAST ? 0 : BAD, spans.distinct(0));
        }
    }

    /** Promise 11: "fewer than SIZE are kept: that many (just so); else (SIZE - 1) times 65,537, divided .. (whole)" */
    private static void distinctAtSize(int size) {
        Counted spans = Given.oneOf(Given.LEAST, size, 0);
        for (int x = 0; x < size - 1; x++) {
            spans.due(x, spans.distinct(0));
            spans.come(0, x, 1);
        }
        spans.due(size - 1, spans.distinct(0));
        spans.come(0, 9999, 1);
        spans.due((size - 1) * 65537 / 10000, spans.distinct(0));
        spans.come(0, 9998, 1);
        spans.due((size - 1) * 65537 / 9999, spans.distinct(0));
        spans.come(0, size - 1, 1);
        spans.due((size - 1) * 65537 / size, spans.distinct(0));
    }

    /** Promise 12: "another SORT" */
    private static void quantileIsOfOneSort() {
        for (int sort = 0; sort < Given.SORTS; sort++) {
            Counted spans = withOneKey(sort);
            spans.due(BAD, spans.quantile(0, 0));
            spans.due(sort == Given.RANKS ? 3 : BAD, spans.quantile(0, 1));
            spans.due(sort == Given.RANKS ? 3 : BAD, spans.quantile(0, 2));
            spans.due(BAD, spans.quantile(0, 3));
        }
    }

    /** Promise 12: "q not 1 .. TOTAL", and every KEY may be the one. */
    private static void quantileOfOne() {
        for (int x : new int[] {0, 1, 2, 4999, 5000, 5001, 8191, 8192, 9998, 9999}) {
            Counted spans = Given.oneOf(Given.RANKS, 32, 0);
            spans.come(0, x, 1);
            spans.due(BAD, spans.quantile(0, 0));
            spans.due(x, spans.quantile(0, 1));
            spans.due(BAD, spans.quantile(0, 2));
            spans.due(BAD, spans.quantile(0, Integer.MAX_VALUE));
            spans.due(BAD, spans.quantile(0, Integer.MIN_VALUE));
        }
    }

    /** Promise 13: "another number" */
    private static void toldIsOfSevenNumbers() {
        // Of KEY 3 the HASHES 4, 8303, 16602, 24901 are 4, 15, 10, 5 modulo 16.
        int[] howMany = {1, 4, 4, 1, 2};
        for (int sort = 0; sort < Given.SORTS; sort++) {
            Counted spans = withOneKey(sort);
            spans.due(BAD, spans.told(0, -1));
            spans.due(sort, spans.told(0, 0));
            spans.due(16, spans.told(0, 1));
            spans.due(0, spans.told(0, 2));
            spans.due(LIFT + 2, spans.told(0, 3));
            spans.due(2, spans.told(0, 4));
            spans.due(0, spans.told(0, 5));
            spans.due(howMany[sort], spans.told(0, 6));
            spans.due(BAD, spans.told(0, 7));
            spans.due(BAD, spans.told(0, Integer.MAX_VALUE));
            spans.due(BAD, spans.told(0, Integer.MIN_VALUE));
        }
    }

    private static void toldOfNothing() {
        for (int sort = 0; sort < Given.SORTS; sort++) {
            Counted spans = Given.oneOf(sort, 16, 999);
            int[] want = {sort, 16, 999, LIFT, 0, 0, 0};
            for (int what = 0; what < want.length; what++) {
                spans.due(want[what], spans.told(0, what));
            }
        }
    }

    /** Promise 14: "of COUNTER i, by their KEYS, the KEY (part 0), the NUMBER (1)" */
    private static void keptOfHeavy() {
        Counted spans = Given.oneOf(Given.HEAVY, 3, 0);
        spans.come(0, 9999, 4);
        spans.come(0, 0, 5);
        for (int part = -1; part <= 2; part++) {
            spans.due(BAD, spans.kept(0, -1, part));
            spans.due(part == 0 ? 0 : part == 1 ? 5 : BAD, spans.kept(0, 0, part));
            spans.due(part == 0 ? 9999 : part == 1 ? 4 : BAD, spans.kept(0, 1, part));
            spans.due(BAD, spans.kept(0, 2, part));
        }
        spans.come(0, 7, 6);
        spans.due(9999, spans.kept(0, 2, 0));
        spans.due(BAD, spans.kept(0, 3, 0));
        spans.due(BAD, spans.kept(0, 3, 1));
    }

    /** Promise 14: "CELL i (row by row) and 10,000,000 (part 0)" */
    private static void keptOfTable() {
        for (int size : new int[] {4, 64}) {
            Counted spans = Given.oneOf(Given.TABLE, size, 0);
            spans.due(BAD, spans.kept(0, -1, 0));
            spans.due(LIFT, spans.kept(0, 0, 0));
            spans.due(LIFT, spans.kept(0, size, 0));
            spans.due(LIFT, spans.kept(0, 4 * size - 1, 0));
            spans.due(BAD, spans.kept(0, 4 * size, 0));
            spans.due(BAD, spans.kept(0, 0, -1));
            spans.due(BAD, spans.kept(0, 0, 1));
        }
    }

    /** Promise 14: "BIT i (part 0)" */
    private static void keptOfFilter() {
        for (int size : new int[] {16, 512}) {
            Counted spans = Given.oneOf(Given.FILTER, size, 0);
            spans.due(BAD, spans.kept(0, -1, 0));
            spans.due(0, spans.kept(0, 0, 0));
            spans.due(0, spans.kept(0, size - 1, 0));
            spans.due(BAD, spans.kept(0, size, 0));
            spans.due(BAD, spans.kept(0, 0, -1));
            spans.due(BAD, spans.kept(0, 0, 1));
        }
    }

    /** Promise 14: "the i-th least HASH (part 0)": as many as are kept, not as SIZE is. */
    private static void keptOfLeast() {
        Counted spans = Given.oneOf(Given.LEAST, 2, 0);
        spans.due(BAD, spans.kept(0, 0, 0));
        spans.come(0, 9, 1);
        spans.due(BAD, spans.kept(0, -1, 0));
        spans.due(10, spans.kept(0, 0, 0));
        spans.due(BAD, spans.kept(0, 1, 0));
        spans.come(0, 4, 1);
        spans.come(0, 7, 1);
        spans.due(5, spans.kept(0, 0, 0));
        spans.due(8, spans.kept(0, 1, 0));
        spans.due(BAD, spans.kept(0, 2, 0));
        spans.due(BAD, spans.kept(0, 0, -1));
        spans.due(BAD, spans.kept(0, 0, 1));
    }

    /** Promise 14: "KEY i of BUFFER part, as they lie (i = - 1: how many; part 0 .. 30)" */
    private static void keptOfRanks() {
        Counted spans = Given.oneOf(Given.RANKS, 4, 0);
        Given.comeEach(spans, 0, 1, 2, 3, 4, 9, 8, 7);
        spans.due(BAD, spans.kept(0, -2, 0));
        spans.due(3, spans.kept(0, -1, 0));
        spans.due(9, spans.kept(0, 0, 0));
        spans.due(7, spans.kept(0, 2, 0));
        spans.due(BAD, spans.kept(0, 3, 0));
        spans.due(BAD, spans.kept(0, -2, 1));
        spans.due(2, spans.kept(0, -1, 1));
        spans.due(1, spans.kept(0, 0, 1));
        spans.due(3, spans.kept(0, 1, 1));
        spans.due(BAD, spans.kept(0, 2, 1));
        for (int i = -2; i <= 0; i++) {
            spans.due(BAD, spans.kept(0, i, -1));
            spans.due(i == -1 ? 0 : BAD, spans.kept(0, i, 2));
            spans.due(i == -1 ? 0 : BAD, spans.kept(0, i, 30));
            spans.due(BAD, spans.kept(0, i, 31));
        }
    }

    /** Promise 14: "BAD: none such": numbers far outside, of every SORT. */
    private static void keptOfNothing() {
        int[] far = {Integer.MIN_VALUE, Integer.MAX_VALUE};
        for (int sort = 0; sort < Given.SORTS; sort++) {
            Counted spans = withOneKey(sort);
            for (int wild : far) {
                spans.due(BAD, spans.kept(0, wild, 0));
                spans.due(BAD, spans.kept(0, 0, wild));
                spans.due(BAD, spans.kept(0, -1, wild));
                spans.due(BAD, spans.kept(0, wild, wild));
                spans.due(BAD, spans.kept(0, wild, 1));
            }
        }
    }

    /** Promise 15: from none to as many as there may be. */
    private static void countGoesToEight() {
        Counted spans = new Counted();
        for (int many = 0; many < 8; many++) {
            spans.due(many, spans.count());
            spans.due(many, many % 2 == 0 ? spans.sketch(Given.LEAST, 2, 0) : spans.copy(0));
        }
        spans.due(8, spans.count());
        spans.sketch(Given.LEAST, 2, 0);
        spans.copy(0);
        spans.due(8, spans.count());
        spans.clear(0);
        spans.merge(0, 1);
        spans.due(8, spans.count());
    }
}
