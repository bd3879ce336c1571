/** Promise 10: has. */
final class Promise10HasTest {
    public static void main(String[] args) {
        filter();
        filterWithOneBitLacking();
        least();
        refusals();
        Check.end();
    }

    private static void filter() {
        Counted spans = Given.oneOf(Given.FILTER, 100, 77);
        Check.due("nothing came", spans.has(0, 5), 0);
        for (int x = 0; x < 60; x += 3) {
            spans.come(0, x, 1);
        }
        int[] bits = new int[100];
        for (int i = 0; i < 100; i++) {
            bits[i] = spans.kept(0, i, 0);
        }
        for (int x = 0; x < 300; x++) {
            int all = 1;
            for (int j = 0; j < 4; j++) {
                all &= bits[Given.hash(77, j, x) % 100];
            }
            Check.due("has(0, " + x + ")", spans.has(0, x), all);
        }
    }

    /** For each j there is a KEY of which only that BIT lacks: all four must be looked at. */
    private static void filterWithOneBitLacking() {
        for (int j = 0; j < 4; j++) {
            Counted spans = Given.oneOf(Given.FILTER, 16, 0);
            int lacking = Given.hash(0, j, 3) % 16;
            boolean alone = true;
            for (int k = 0; k < 4; k++) {
                alone &= k == j || Given.hash(0, k, 3) % 16 != lacking;
            }
            Check.holds("BIT " + j + " of KEY 3 is its alone", alone);
            for (int x = 4; x < 400; x++) {
                boolean sets = false;
                for (int k = 0; k < 4; k++) {
                    sets |= Given.hash(0, k, x) % 16 == lacking;
                }
                if (!sets) {
                    spans.come(0, x, 1);
                }
            }
            Check.due("BITS that are set", spans.told(0, 6), 15);
            Check.due("has(0, 3)", spans.has(0, 3), 0);
            spans.come(0, 3, 1);
            Check.due("has(0, 3) then", spans.has(0, 3), 1);
        }
    }

    private static void least() {
        Counted spans = Given.oneOf(Given.LEAST, 3, 0);
        Check.due("nothing came", spans.has(0, 0), 0);
        Given.comeEach(spans, 0, 10, 20, 30);
        Check.due("has(0, 30)", spans.has(0, 30), 1);
        Given.comeEach(spans, 0, 5);
        Check.due("has(0, 5)", spans.has(0, 5), 1);
        Check.due("has(0, 10)", spans.has(0, 10), 1);
        Check.due("has(0, 20)", spans.has(0, 20), 1);
        Check.due("has(0, 30), kept no more", spans.has(0, 30), 0);
        Check.due("has(0, 15)", spans.has(0, 15), 0);
        Check.due("has(0, 0)", spans.has(0, 0), 0);
        Check.due("has(0, 9999)", spans.has(0, 9999), 0);
    }

    private static void refusals() {
        for (int sort = 0; sort < Given.SORTS; sort++) {
            boolean answers = sort == Given.FILTER || sort == Given.LEAST;
            Counted spans = Given.oneOf(sort, 16, 0);
            spans.come(0, 3, 2);
            Check.due("has of sort " + sort, spans.has(0, 3), answers ? 1 : Given.BAD);
            Check.due("KEY 10000", spans.has(0, 10000), Given.BAD);
            Check.due("SKETCH 1", spans.has(1, 3), Given.BAD);
            for (int wild : Given.WILD) {
                Check.due("KEY " + wild, spans.has(0, wild), Given.BAD);
                Check.due("SKETCH " + wild, spans.has(wild, 3), Given.BAD);
            }
        }
    }
}
