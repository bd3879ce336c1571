/** Promise 9: high. */
final class Promise09HighTest {
    public static void main(String[] args) {
        heavy();
        table();
        tableAtTheBrim();
        ranks();
        refusals();
        Check.end();
    }

    private static void heavy() {
        Counted spans = Given.oneOf(Given.HEAVY, 2, 0);
        Check.due("nothing came", spans.high(0, 4), 0);
        spans.come(0, 4, 10);
        spans.come(0, 8, 3);
        spans.come(0, 6, 1);
        Check.due("high(0, 4)", spans.high(0, 4), 10);
        Check.due("high(0, 8)", spans.high(0, 8), 3);
        Check.due("high(0, 6)", spans.high(0, 6), 1);
        Check.due("high(0, 9999)", spans.high(0, 9999), 1);
    }

    private static void table() {
        Counted spans = Given.oneOf(Given.TABLE, 4, 33);
        Check.due("nothing came", spans.high(0, 4), 0);
        for (int x = 0; x < 40; x++) {
            spans.come(0, x, x % 5 == 0 ? -30 : x);
        }
        for (int x = 0; x < 60; x++) {
            int least = Integer.MAX_VALUE;
            for (int j = 0; j < 4; j++) {
                int cell = spans.kept(0, 4 * j + Given.hash(33, j, x) % 4, 0) - Given.LIFT;
                least = Math.min(least, cell);
            }
            Check.due("high(0, " + x + ")", spans.high(0, x), least);
        }
        spans.clear(0);
        spans.come(0, 5, -7);
        Check.due("below 0", spans.high(0, 5), -7);
    }

    private static void tableAtTheBrim() {
        Counted spans = Given.oneOf(Given.TABLE, 4, 33);
        spans.sketch(Given.TABLE, 4, 33);
        Given.fillToTheBrim(spans, 9, 1000);
        Check.due("the most", spans.high(0, 9), 10_000_000);
        spans.clear(0);
        Given.fillToTheBrim(spans, 9, -1000);
        Check.due("the least", spans.high(0, 9), -10_000_000);
    }

    private static void ranks() {
        Counted spans = Given.oneOf(Given.RANKS, 4, 0);
        Check.due("nothing came", spans.high(0, 9999), 0);
        Given.comeEach(spans, 0, 2, 4);
        Check.due("high(0, 1)", spans.high(0, 1), 0);
        Check.due("high(0, 2)", spans.high(0, 2), 1);
        Check.due("high(0, 4)", spans.high(0, 4), 2);
        Given.comeEach(spans, 0, 6, 8, 5);
        // 2 6 with WEIGHT 2, 5 with 1, ERROR 1.
        Check.due("high(0, 1)", spans.high(0, 1), 1);
        Check.due("high(0, 2)", spans.high(0, 2), 3);
        Check.due("high(0, 5)", spans.high(0, 5), 4);
        Check.due("high(0, 6), not above TOTAL", spans.high(0, 6), 5);
        Check.due("high(0, 9999)", spans.high(0, 9999), 5);
    }

    private static void refusals() {
        for (int sort = 0; sort < Given.SORTS; sort++) {
            boolean answers = sort == Given.HEAVY || sort == Given.TABLE || sort == Given.RANKS;
            Counted spans = Given.oneOf(sort, 16, 0);
            spans.come(0, 3, 2);
            Check.due("high of sort " + sort, spans.high(0, 3), answers ? 2 : Given.BAD);
            Check.due("KEY 10000", spans.high(0, 10000), Given.BAD);
            Check.due("SKETCH 1", spans.high(1, 3), Given.BAD);
            for (int wild : Given.WILD) {
                Check.due("KEY " + wild, spans.high(0, wild), Given.BAD);
                Check.due("SKETCH " + wild, spans.high(wild, 3), Given.BAD);
            }
        }
    }
}
