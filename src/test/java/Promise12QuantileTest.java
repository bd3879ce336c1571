/** Promise 12: quantile. */
final class Promise12QuantileTest {
    public static void main(String[] args) {
        byHand();
        ofTheEdgesOfKeys();
        atTheBrim();
        refusals();
        Check.end();
    }

    private static void byHand() {
        Counted spans = Given.oneOf(Given.RANKS, 4, 0);
        Given.comeEach(spans, 0, 2, 4, 6, 8, 5);
        // 2 6 with WEIGHT 2, 5 with 1.
        int[] want = {2, 2, 5, 6, 6};
        for (int q = 1; q <= 5; q++) {
            Check.due("quantile(0, " + q + ")", spans.quantile(0, q), want[q - 1]);
        }
        Check.due("quantile(0, 0)", spans.quantile(0, 0), Given.BAD);
        Check.due("quantile(0, 6)", spans.quantile(0, 6), Given.BAD);
    }

    private static void ofTheEdgesOfKeys() {
        Counted spans = Given.oneOf(Given.RANKS, 32, 0);
        spans.come(0, 9999, 2);
        Check.due("quantile(0, 1)", spans.quantile(0, 1), 9999);
        spans.come(0, 0, 1);
        Check.due("quantile(0, 1) then", spans.quantile(0, 1), 0);
        Check.due("quantile(0, 2) then", spans.quantile(0, 2), 9999);
        spans.come(0, 9998, 1);
        Check.due("quantile(0, 2) at last", spans.quantile(0, 2), 9998);
        Check.due("quantile(0, 3) at last", spans.quantile(0, 3), 9999);
        Check.due("quantile(0, 4) at last", spans.quantile(0, 4), 9999);
    }

    private static void atTheBrim() {
        Counted spans = Given.oneOf(Given.RANKS, 4, 0);
        spans.sketch(Given.RANKS, 4, 0);
        Given.fillToTheBrim(spans, 77, 100);
        Check.due("the first", spans.quantile(0, 1), 77);
        Check.due("the last", spans.quantile(0, 10_000_000), 77);
        Check.due("one behind", spans.quantile(0, 10_000_001), Given.BAD);
    }

    private static void refusals() {
        for (int sort = 0; sort < Given.SORTS; sort++) {
            Counted spans = Given.oneOf(sort, 16, 0);
            Check.due("nothing came", spans.quantile(0, 1), Given.BAD);
            Check.due("nothing came", spans.quantile(0, 0), Given.BAD);
            spans.come(0, 3, 2);
            Check.due("quantile of sort " + sort, spans.quantile(0, 1), sort == Given.RANKS ? 3 : Given.BAD);
            Check.due("SKETCH 1", spans.quantile(1, 1), Given.BAD);
            for (int wild : Given.WILD) {
                Check.due("q " + wild, spans.quantile(0, wild), Given.BAD);
                Check.due("SKETCH " + wild, spans.quantile(wild, 1), Given.BAD);
            }
        }
    }
}
