/** Promise 11: distinct. */
final class Promise11DistinctTest {
    public static void main(String[] args) {
        fewAreCountedJustSo();
        manyAreGuessed();
        sizesAtTheEdges();
        leastHashes();
        refusals();
        Check.end();
    }

    private static void fewAreCountedJustSo() {
        Counted spans = Given.oneOf(Given.LEAST, 5, 123);
        Check.due("nothing came", spans.distinct(0), 0);
        Given.comeEach(spans, 0, 8, 8, 9, 8);
        Check.due("two", spans.distinct(0), 2);
        Given.comeEach(spans, 0, 9999, 0);
        Check.due("four", spans.distinct(0), 4);
    }

    private static void manyAreGuessed() {
        // By SEED 0 HASH 0 of x is x + 1.
        Counted spans = Given.oneOf(Given.LEAST, 3, 0);
        Given.comeEach(spans, 0, 10, 20, 9999);
        Check.due("2 * 65537 / 10000", spans.distinct(0), 13);
        Given.comeEach(spans, 0, 99);
        Check.due("2 * 65537 / 100", spans.distinct(0), 1310);
        Given.comeEach(spans, 0, 0, 1, 2);
        Check.due("2 * 65537 / 3", spans.distinct(0), 43691);
    }

    private static void sizesAtTheEdges() {
        Counted two = Given.oneOf(Given.LEAST, 2, 0);
        Given.comeEach(two, 0, 0);
        Check.due("one", two.distinct(0), 1);
        Given.comeEach(two, 0, 1);
        Check.due("65537 / 2", two.distinct(0), 32768);
        Counted most = Given.oneOf(Given.LEAST, 32, 0);
        for (int x = 0; x < 31; x++) {
            most.come(0, x, 1000);
        }
        Check.due("31 of 32", most.distinct(0), 31);
        most.come(0, 31, 1);
        Check.due("31 * 65537 / 32", most.distinct(0), 63488);
    }

    private static void leastHashes() {
        Counted spans = Given.oneOf(Given.LEAST, 2, 3);
        Check.due("hash(3, 0, 7668)", spans.hash(3, 0, 7668), 0);
        Check.due("hash(3, 0, 4182)", spans.hash(3, 0, 4182), 1);
        Given.comeEach(spans, 0, 7668);
        Check.due("one", spans.distinct(0), 1);
        Given.comeEach(spans, 0, 4182);
        Check.due("65537 / 1", spans.distinct(0), 65537);
        Given.comeEach(spans, 0, 0, 9999);
        Check.due("65537 / 1 still", spans.distinct(0), 65537);
        Check.due("HASH 0 is kept", spans.has(0, 7668), 1);
    }

    private static void refusals() {
        for (int sort = 0; sort < Given.SORTS; sort++) {
            Counted spans = Given.oneOf(sort, 16, 0);
            spans.come(0, 3, 2);
            Check.due("distinct of sort " + sort, spans.distinct(0), sort == Given.LEAST ? 1 : Given.BAD);
            Check.due("SKETCH 1", spans.distinct(1), Given.BAD);
            for (int wild : Given.WILD) {
                Check.due("SKETCH " + wild, spans.distinct(wild), Given.BAD);
            }
        }
    }
}
