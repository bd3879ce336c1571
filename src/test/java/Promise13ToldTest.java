/** Promise 13: told. */
final class Promise13ToldTest {
    public static void main(String[] args) {
        heavy();
        table();
        filter();
        least();
        ranks();
        refusals();
        Check.end();
    }

    private static void toldIs(Counted spans, int... want) {
        for (int what = 0; what < want.length; what++) {
            Check.due("told(0, " + what + ")", spans.told(0, what), want[what]);
        }
    }

    private static void heavy() {
        Counted spans = Given.oneOf(Given.HEAVY, 1, 999);
        spans.come(0, 4, 10);
        spans.come(0, 5, 3);
        toldIs(spans, 0, 1, 999, Given.LIFT + 13, 13, 3, 1);
        spans.come(0, 5, 7);
        toldIs(spans, 0, 1, 999, Given.LIFT + 20, 20, 10, 0);
    }

    private static void table() {
        Counted spans = Given.oneOf(Given.TABLE, 64, 3);
        spans.come(0, 4, -10);
        spans.come(0, 4, 3);
        toldIs(spans, 1, 64, 3, Given.LIFT - 7, 13, 0, 4);
        spans.come(0, 4, 7);
        toldIs(spans, 1, 64, 3, Given.LIFT, 20, 0, 0);
        spans.clear(0);
        spans.sketch(Given.TABLE, 64, 3);
        Given.fillToTheBrim(spans, 4, -1000);
        toldIs(spans, 1, 64, 3, 0, 10_000_000, 0, 4);
    }

    private static void filter() {
        Counted spans = Given.oneOf(Given.FILTER, 512, 0);
        spans.come(0, 0, 10);
        spans.come(0, 0, 3);
        // HASHES 1, 5369, 10737, 16105 modulo 512.
        toldIs(spans, 2, 512, 0, Given.LIFT + 13, 13, 0, 4);
        Check.due("BIT 1", spans.kept(0, 1, 0), 1);
        Check.due("BIT 249", spans.kept(0, 249, 0), 1);
        Check.due("BIT 497", spans.kept(0, 497, 0), 1);
        Check.due("BIT 233", spans.kept(0, 233, 0), 1);
    }

    private static void least() {
        Counted spans = Given.oneOf(Given.LEAST, 2, 7);
        spans.come(0, 4, 10);
        toldIs(spans, 3, 2, 7, Given.LIFT + 10, 10, 0, 1);
        spans.come(0, 5, 10);
        spans.come(0, 6, 10);
        toldIs(spans, 3, 2, 7, Given.LIFT + 30, 30, 0, 2);
    }

    private static void ranks() {
        Counted spans = Given.oneOf(Given.RANKS, 4, 1);
        spans.come(0, 4, 3);
        toldIs(spans, 4, 4, 1, Given.LIFT + 3, 3, 0, 3);
        spans.come(0, 5, 2);
        toldIs(spans, 4, 4, 1, Given.LIFT + 5, 5, 1, 3);
        spans.come(0, 5, 3);
        toldIs(spans, 4, 4, 1, Given.LIFT + 8, 8, 4, 2);
    }

    private static void refusals() {
        for (int sort = 0; sort < Given.SORTS; sort++) {
            Counted spans = Given.oneOf(sort, 16, 0);
            Check.due("what 7", spans.told(0, 7), Given.BAD);
            Check.due("SKETCH 1", spans.told(1, 0), Given.BAD);
            for (int wild : Given.WILD) {
                Check.due("what " + wild, spans.told(0, wild), Given.BAD);
                Check.due("SKETCH " + wild, spans.told(wild, 0), Given.BAD);
            }
        }
    }
}
