/** Promise 8: low. */
final class Promise08LowTest {
    public static void main(String[] args) {
        heavy();
        ranks();
        refusals();
        Check.end();
    }

    private static void heavy() {
        Counted spans = Given.oneOf(Given.HEAVY, 2, 0);
        Check.due("nothing came", spans.low(0, 4), 0);
        spans.come(0, 4, 10);
        spans.come(0, 8, 3);
        spans.come(0, 6, 1);
        Check.due("low(0, 4)", spans.low(0, 4), 9);
        Check.due("low(0, 8)", spans.low(0, 8), 2);
        Check.due("low(0, 6)", spans.low(0, 6), 0);
        Check.due("low(0, 0)", spans.low(0, 0), 0);
        Check.due("low(0, 9999)", spans.low(0, 9999), 0);
    }

    private static void ranks() {
        Counted spans = Given.oneOf(Given.RANKS, 4, 0);
        Check.due("nothing came", spans.low(0, 9999), 0);
        Given.comeEach(spans, 0, 2, 4);
        Check.due("low(0, 1)", spans.low(0, 1), 0);
        Check.due("low(0, 2)", spans.low(0, 2), 1);
        Check.due("low(0, 3)", spans.low(0, 3), 1);
        Check.due("low(0, 4)", spans.low(0, 4), 2);
        Given.comeEach(spans, 0, 6, 8, 5);
        // 2 6 with WEIGHT 2, 5 with 1, ERROR 1.
        Check.due("low(0, 1), not below 0", spans.low(0, 1), 0);
        Check.due("low(0, 2)", spans.low(0, 2), 1);
        Check.due("low(0, 5)", spans.low(0, 5), 2);
        Check.due("low(0, 9999)", spans.low(0, 9999), 4);
    }

    private static void refusals() {
        for (int sort = 0; sort < Given.SORTS; sort++) {
            boolean answers = sort == Given.HEAVY || sort == Given.RANKS;
            Counted spans = Given.oneOf(sort, 16, 0);
            spans.come(0, 3, 2);
            Check.due("low of sort " + sort, spans.low(0, 3), answers ? 2 : Given.BAD);
            Check.due("KEY 10000", spans.low(0, 10000), Given.BAD);
            Check.due("SKETCH 1", spans.low(1, 3), Given.BAD);
            for (int wild : Given.WILD) {
                Check.due("KEY " + wild, spans.low(0, wild), Given.BAD);
                Check.due("SKETCH " + wild, spans.low(wild, 3), Given.BAD);
            }
        }
    }
}
