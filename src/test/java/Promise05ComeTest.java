/** Promise 5: come. */
final class Promise05ComeTest {
    private static final int[] MOST = {1000, 1000, 1000, 1000, 100};

    public static void main(String[] args) {
        heavy();
        table();
        filter();
        least();
        ranks();
        ranksCollapseBetween();
        for (int sort = 0; sort < Given.SORTS; sort++) {
            edges(sort);
            brim(sort);
        }
        Check.end();
    }

    private static void heavy() {
        Counted spans = Given.oneOf(Given.HEAVY, 2, 0);
        Check.due("come 1", spans.come(0, 7, 3), Given.LIFT + 3);
        Check.due("come 2", spans.come(0, 2, 5), Given.LIFT + 8);
        Given.keptIs(spans, 0, 0, 2, 7);
        Given.keptIs(spans, 0, 1, 5, 3);
        spans.come(0, 3, 2);
        heavyIs(spans, 2, new int[] {2, 7}, new int[] {3, 1});
        spans.come(0, 3, 4);
        heavyIs(spans, 3, new int[] {2, 3}, new int[] {2, 3});
        spans.come(0, 2, 1);
        heavyIs(spans, 3, new int[] {2, 3}, new int[] {3, 3});
        spans.come(0, 9, 3);
        heavyIs(spans, 6, new int[] {}, new int[] {});
        Check.due("come 7", spans.come(0, 9, 1), Given.LIFT + 19);
        heavyIs(spans, 6, new int[] {9}, new int[] {1});
    }

    private static void heavyIs(Counted spans, int lost, int[] keys, int[] numbers) {
        Check.due("LOST", spans.told(0, 5), lost);
        Given.keptIs(spans, 0, 0, keys);
        Given.keptIs(spans, 0, 1, numbers);
    }

    private static void table() {
        Counted spans = Given.oneOf(Given.TABLE, 7, 12);
        Check.due("come", spans.come(0, 40, 9), Given.LIFT + 9);
        Check.due("come back", spans.come(0, 41, -20), Given.LIFT - 11);
        for (int i = 0; i < 28; i++) {
            int want = Given.hash(12, i / 7, 40) % 7 == i % 7 ? 9 : 0;
            want -= Given.hash(12, i / 7, 41) % 7 == i % 7 ? 20 : 0;
            Check.due("CELL " + i, spans.kept(0, i, 0), Given.LIFT + want);
        }
    }

    private static void filter() {
        Counted spans = Given.oneOf(Given.FILTER, 19, 5);
        spans.come(0, 40, 1000);
        for (int i = 0; i < 19; i++) {
            int want = 0;
            for (int j = 0; j < 4; j++) {
                want |= Given.hash(5, j, 40) % 19 == i ? 1 : 0;
            }
            Check.due("BIT " + i, spans.kept(0, i, 0), want);
        }
    }

    private static void least() {
        // By SEED 0 HASH 0 of x is x + 1.
        Counted spans = Given.oneOf(Given.LEAST, 3, 0);
        Given.comeEach(spans, 0, 50, 20, 50);
        Given.keptIs(spans, 0, 0, 21, 51);
        Given.comeEach(spans, 0, 70);
        Given.keptIs(spans, 0, 0, 21, 51, 71);
        Given.comeEach(spans, 0, 90, 70, 30, 0);
        Given.keptIs(spans, 0, 0, 1, 21, 31);
        Given.comeEach(spans, 0, 50, 20);
        Given.keptIs(spans, 0, 0, 1, 21, 31);
    }

    private static void ranks() {
        Counted spans = Given.oneOf(Given.RANKS, 4, 0);
        Given.comeEach(spans, 0, 9, 3, 7);
        Given.bufferIs(spans, 0, 0, 9, 3, 7);
        Check.due("no ERROR", spans.told(0, 5), 0);
        Given.comeEach(spans, 0, 5);
        Given.bufferIs(spans, 0, 0);
        Given.bufferIs(spans, 0, 1, 3, 7);
        Check.due("ERROR 1", spans.told(0, 5), 1);
        Given.comeEach(spans, 0, 8, 2, 1, 6);
        // By TURN 1 go 2 8 to 3 7: by TURN 0 of BUFFER 1 go 2 7.
        Given.bufferIs(spans, 0, 1);
        Given.bufferIs(spans, 0, 2, 2, 7);
        Check.due("ERROR 4", spans.told(0, 5), 4);
        Check.due("come 5 times", spans.come(0, 4, 5), Given.LIFT + 13);
        Given.bufferIs(spans, 0, 0, 4);
        Given.bufferIs(spans, 0, 1, 4, 4);
        Given.bufferIs(spans, 0, 2, 2, 7);
    }

    private static void ranksCollapseBetween() {
        Counted spans = Given.oneOf(Given.RANKS, 6, 0);
        Given.comeEach(spans, 0, 11, 12, 13, 14, 15, 16);
        Given.bufferIs(spans, 0, 1, 11, 13, 15);
        spans.sketch(Given.RANKS, 6, 0);
        Given.comeEach(spans, 1, 1, 2, 3, 4, 5, 6);
        Given.comeEach(spans, 1, 1, 2, 3, 4, 5, 6);
        // BUFFER 1 had 1 3 5 2 4 6: by TURN 0 go 1 3 5.
        Given.bufferIs(spans, 1, 1);
        Given.bufferIs(spans, 1, 2, 1, 3, 5);
        spans.merge(1, 0);
        Given.comeEach(spans, 1, 20, 21, 22, 23, 24, 25);
        // 11 13 15 and 20 22 24: by TURN 1 go 13 20 24 to 1 3 5, of which by TURN 0 go 1 5 20.
        Given.bufferIs(spans, 1, 1);
        Given.bufferIs(spans, 1, 2);
        Given.bufferIs(spans, 1, 3, 1, 5, 20);
    }

    private static void edges(int sort) {
        Counted spans = Given.oneOf(sort, 16, 0);
        Check.due("the first KEY", spans.come(0, 0, 1), Given.LIFT + 1);
        Check.due("the last KEY", spans.come(0, 9999, MOST[sort]), Given.LIFT + 1 + MOST[sort]);
        var before = Given.all(spans, 0);
        Check.due("n too great", spans.come(0, 1, MOST[sort] + 1), Given.BAD);
        Check.due("n 0", spans.come(0, 1, 0), Given.BAD);
        Check.due("n -1001", spans.come(0, 1, -1001), Given.BAD);
        Check.due("n least", spans.come(0, 1, Integer.MIN_VALUE), Given.BAD);
        Check.due("n most", spans.come(0, 1, Integer.MAX_VALUE), Given.BAD);
        Check.due("KEY 10000", spans.come(0, 10000, 1), Given.BAD);
        Check.due("SKETCH 1", spans.come(1, 0, 1), Given.BAD);
        for (int wild : Given.WILD) {
            Check.due("KEY " + wild, spans.come(0, wild, 1), Given.BAD);
            Check.due("SKETCH " + wild, spans.come(wild, 0, 1), Given.BAD);
        }
        if (sort != Given.TABLE) {
            Check.due("n -1", spans.come(0, 0, -1), Given.BAD);
            Check.due("n -1000", spans.come(0, 0, -1000), Given.BAD);
        }
        Check.holds("a refused call does nothing, sort " + sort, before.equals(Given.all(spans, 0)));
        if (sort == Given.TABLE) {
            Check.due("n -1", spans.come(0, 0, -1), Given.LIFT + 1000);
            Check.due("n -1000", spans.come(0, 0, -1000), Given.LIFT);
            Check.due("MOVED", spans.told(0, 4), 2002);
        }
    }

    private static void brim(int sort) {
        Counted spans = Given.oneOf(sort, Given.SMALLEST[sort], 0);
        spans.sketch(sort, Given.SMALLEST[sort], 0);
        Given.fillToTheBrim(spans, 5, MOST[sort]);
        var before = Given.all(spans, 0);
        Check.due("one more", spans.come(0, 5, 1), Given.FULL);
        Check.due("many more", spans.come(0, 6, MOST[sort]), Given.FULL);
        Check.due("BAD goes before FULL", spans.come(0, 10000, 1), Given.BAD);
        Check.due("BAD goes before FULL", spans.come(0, 5, 0), Given.BAD);
        if (sort == Given.TABLE) {
            Check.due("one taken back", spans.come(0, 5, -1), Given.FULL);
        }
        Check.holds("FULL does nothing, sort " + sort, before.equals(Given.all(spans, 0)));
    }
}
