/** Promise 2: sketch. */
final class Promise02SketchTest {
    public static void main(String[] args) {
        numbersRiseUntilFull();
        sizesHaveEdges();
        ranksAreEven();
        seedsHaveEdges();
        sortsHaveEdges();
        nothingCame();
        badGoesBeforeFull();
        Check.end();
    }

    private static void numbersRiseUntilFull() {
        Counted spans = new Counted();
        for (int i = 0; i < 8; i++) {
            Check.due("sketch " + i, spans.sketch(i % 5, 16, i), i);
        }
        Check.due("sketch 9", spans.sketch(0, 16, 0), Given.FULL);
        Check.due("sketch 10", spans.sketch(4, 16, 0), Given.FULL);
        Check.due("count()", spans.count(), 8);
    }

    private static void sizesHaveEdges() {
        for (int sort = 0; sort < Given.SORTS; sort++) {
            Counted spans = new Counted();
            int least = Given.SMALLEST[sort];
            int most = Given.LARGEST[sort];
            Check.due("least size of " + sort, spans.sketch(sort, least, 0), 0);
            Check.due("most size of " + sort, spans.sketch(sort, most, 0), 1);
            Check.due("below the least of " + sort, spans.sketch(sort, least - 1, 0), Given.BAD);
            Check.due("two below the least of " + sort, spans.sketch(sort, least - 2, 0), Given.BAD);
            Check.due("above the most of " + sort, spans.sketch(sort, most + 1, 0), Given.BAD);
            Check.due("two above the most of " + sort, spans.sketch(sort, most + 2, 0), Given.BAD);
            for (int wild : Given.WILD) {
                Check.due("size " + wild, spans.sketch(sort, wild, 0), Given.BAD);
            }
            Check.due("size 0", spans.sketch(sort, 0, 0), Given.BAD);
            Check.due("count()", spans.count(), 2);
        }
    }

    private static void ranksAreEven() {
        for (int size = 5; size < 32; size += 2) {
            Check.due("odd " + size, new Counted().sketch(Given.RANKS, size, 0), Given.BAD);
            Check.due("even", new Counted().sketch(Given.RANKS, size + 1, 0), 0);
            Check.due("LEAST may be odd", new Counted().sketch(Given.LEAST, size, 0), 0);
        }
    }

    private static void seedsHaveEdges() {
        for (int sort = 0; sort < Given.SORTS; sort++) {
            Counted spans = new Counted();
            Check.due("seed 0", spans.sketch(sort, 16, 0), 0);
            Check.due("seed 999", spans.sketch(sort, 16, 999), 1);
            Check.due("seed 1000", spans.sketch(sort, 16, 1000), Given.BAD);
            for (int wild : Given.WILD) {
                Check.due("seed " + wild, spans.sketch(sort, 16, wild), Given.BAD);
            }
        }
    }

    private static void sortsHaveEdges() {
        Counted spans = new Counted();
        Check.due("sort 5", spans.sketch(5, 16, 0), Given.BAD);
        for (int wild : Given.WILD) {
            Check.due("sort " + wild, spans.sketch(wild, 16, 0), Given.BAD);
        }
        Check.due("count()", spans.count(), 0);
    }

    private static void nothingCame() {
        for (int sort = 0; sort < Given.SORTS; sort++) {
            Counted spans = Given.oneOf(sort, 16, 41);
            int[] want = {sort, 16, 41, Given.LIFT, 0, 0, 0};
            for (int what = 0; what < want.length; what++) {
                Check.due("told " + what + " of sort " + sort, spans.told(0, what), want[what]);
            }
        }
    }

    private static void badGoesBeforeFull() {
        Counted spans = new Counted();
        for (int i = 0; i < 8; i++) {
            spans.sketch(0, 1, 0);
        }
        Check.due("bad sort while full", spans.sketch(5, 16, 0), Given.BAD);
        Check.due("bad size while full", spans.sketch(0, 21, 0), Given.BAD);
        Check.due("bad seed while full", spans.sketch(0, 1, 1000), Given.BAD);
    }
}
