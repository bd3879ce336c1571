/** The edges of KEYS, HASHES, SEEDS, SIZES, n and of an object's use, one method for each sentence of "Terms". */
final class EdgesOfTermsTest {
    private static final int BAD = Given.BAD;

    public static void main(String[] args) {
        keysThatCome();
        keysThatAreAskedFor();
        keysThatAreHashed();
        hashesAreFour();
        seedsOfHashes();
        seedsOfSketches();
        hashesWrapAround();
        sizesOfSketches();
        sizesOfRanksAreEven();
        timesOfThreeSorts();
        timesOfTables();
        timesOfRanks();
        movedHasNoSigns();
        likeOnesAreLikeInAllThree();
        the512thCallIsAnswered();
        Check.end();
    }

    /** "KEYS are 0 .. 9,999." */
    private static void keysThatCome() {
        for (int sort = 0; sort < Given.SORTS; sort++) {
            Counted spans = Given.oneOf(sort, 16, 0);
            spans.due(BAD, spans.come(0, -1, 1));
            spans.due(Given.LIFT + 1, spans.come(0, 0, 1));
            spans.due(Given.LIFT + 2, spans.come(0, 9999, 1));
            spans.due(BAD, spans.come(0, 10000, 1));
            spans.due(Given.LIFT + 2, spans.told(0, 3));
        }
    }

    private static void keysThatAreAskedFor() {
        for (int sort = 0; sort < Given.SORTS; sort++) {
            Counted spans = Given.oneOf(sort, 16, 0);
            spans.come(0, 0, 3);
            spans.come(0, 9999, 3);
            if (sort == Given.HEAVY || sort == Given.RANKS) {
                spans.due(BAD, spans.low(0, -1));
                spans.due(3, spans.low(0, 0));
                spans.due(sort == Given.RANKS ? 6 : 3, spans.low(0, 9999));
                spans.due(BAD, spans.low(0, 10000));
            }
            if (sort == Given.HEAVY || sort == Given.TABLE || sort == Given.RANKS) {
                spans.due(BAD, spans.high(0, -1));
                spans.due(3, spans.high(0, 0));
                spans.due(sort == Given.RANKS ? 6 : 3, spans.high(0, 9999));
                spans.due(BAD, spans.high(0, 10000));
            }
            if (sort == Given.FILTER || sort == Given.LEAST) {
                spans.due(BAD, spans.has(0, -1));
                spans.due(1, spans.has(0, 0));
                spans.due(1, spans.has(0, 9999));
                spans.due(BAD, spans.has(0, 10000));
            }
        }
    }

    private static void keysThatAreHashed() {
        Counted spans = new Counted();
        spans.due(BAD, spans.hash(0, 0, -1));
        spans.due(1, spans.hash(0, 0, 0));
        spans.due(10000, spans.hash(0, 0, 9999));
        spans.due(BAD, spans.hash(0, 0, 10000));
        // 33,901 times (x + 1), and 13,173 and 6,993: the greatest of all before they are divided.
        spans.due(BAD, spans.hash(999, 3, -1));
        spans.due(54067, spans.hash(999, 3, 0));
        spans.due(7265, spans.hash(999, 3, 9999));
        spans.due(BAD, spans.hash(999, 3, 10000));
    }

    /** "HASH j (0 .. 3)" */
    private static void hashesAreFour() {
        Counted spans = new Counted();
        spans.due(BAD, spans.hash(0, -1, 0));
        spans.due(1, spans.hash(0, 0, 0));
        spans.due(978 + 4391, spans.hash(0, 1, 0));
        spans.due(1955 + 8782, spans.hash(0, 2, 0));
        spans.due(2932 + 13173, spans.hash(0, 3, 0));
        spans.due(BAD, spans.hash(0, 4, 0));
    }

    /** "a SEED s (0 .. 999)" */
    private static void seedsOfHashes() {
        Counted spans = new Counted();
        spans.due(BAD, spans.hash(-1, 0, 0));
        spans.due(1, spans.hash(0, 0, 0));
        spans.due(30970 + 6993, spans.hash(999, 0, 0));
        spans.due(BAD, spans.hash(1000, 0, 0));
    }

    private static void seedsOfSketches() {
        for (int sort = 0; sort < Given.SORTS; sort++) {
            Counted spans = new Counted();
            spans.due(BAD, spans.sketch(sort, 16, -1));
            spans.due(0, spans.sketch(sort, 16, 0));
            spans.due(1, spans.sketch(sort, 16, 999));
            spans.due(BAD, spans.sketch(sort, 16, 1000));
            spans.due(0, spans.told(0, 2));
            spans.due(999, spans.told(1, 2));
        }
    }

    /** "modulo 65,537": 0 follows 65,536. */
    private static void hashesWrapAround() {
        Counted spans = new Counted();
        // (1 + 8,990 + 1,954) times 5, and 8,782 and 2,030, are 65,537 just so.
        spans.due(65537 - 10945, spans.hash(290, 2, 3));
        spans.due(0, spans.hash(290, 2, 4));
        spans.due(10945, spans.hash(290, 2, 5));
        // (1 + 155 + 2,931) times 7,129 and 9,252, and 13,173 and 35.
        spans.due(65536, spans.hash(5, 3, 7128));
        spans.due(65536 - 3087, spans.hash(5, 3, 7127));
        spans.due(3087 - 1, spans.hash(5, 3, 7129));
        spans.due(0, spans.hash(5, 3, 9251));
        spans.due(65537 - 3087, spans.hash(5, 3, 9250));
    }

    /** "SIZE k 1 .. 20", "c 4 .. 64", "b 16 .. 512", "k 2 .. 32", "k 4 .. 32" */
    private static void sizesOfSketches() {
        int[] least = {1, 4, 16, 2, 4};
        int[] most = {20, 64, 512, 32, 32};
        for (int sort = 0; sort < Given.SORTS; sort++) {
            Counted spans = new Counted();
            spans.due(BAD, spans.sketch(sort, least[sort] - 1, 0));
            spans.due(0, spans.sketch(sort, least[sort], 0));
            spans.due(1, spans.sketch(sort, most[sort], 0));
            spans.due(BAD, spans.sketch(sort, most[sort] + 1, 0));
            spans.due(least[sort], spans.told(0, 1));
            spans.due(most[sort], spans.told(1, 1));
        }
    }

    /** "SIZE k 4 .. 32, even": the even ones just outside and the odd ones just inside. */
    private static void sizesOfRanksAreEven() {
        Counted spans = new Counted();
        spans.due(BAD, spans.sketch(Given.RANKS, 2, 0));
        spans.due(0, spans.sketch(Given.RANKS, 4, 0));
        spans.due(BAD, spans.sketch(Given.RANKS, 5, 0));
        spans.due(1, spans.sketch(Given.RANKS, 6, 0));
        spans.due(2, spans.sketch(Given.RANKS, 30, 0));
        spans.due(BAD, spans.sketch(Given.RANKS, 31, 0));
        spans.due(3, spans.sketch(Given.RANKS, 32, 0));
        spans.due(BAD, spans.sketch(Given.RANKS, 34, 0));
        // Of an odd number below 0 the rest is -1.
        spans.due(BAD, spans.sketch(Given.RANKS, -5, 0));
        spans.due(BAD, spans.sketch(Given.RANKS, -4, 0));
    }

    /** "x COMES n times (1 .. 1,000)" to HEAVY, FILTER, LEAST. */
    private static void timesOfThreeSorts() {
        for (int sort : new int[] {Given.HEAVY, Given.FILTER, Given.LEAST}) {
            Counted spans = Given.oneOf(sort, 16, 0);
            spans.due(BAD, spans.come(0, 7, -1));
            spans.due(BAD, spans.come(0, 7, 0));
            spans.due(Given.LIFT + 1, spans.come(0, 7, 1));
            spans.due(Given.LIFT + 1001, spans.come(0, 7, 1000));
            spans.due(BAD, spans.come(0, 7, 1001));
            spans.due(1001, spans.told(0, 4));
        }
    }

    /** "(- 1,000 .. 1,000, not 0)" to TABLE. */
    private static void timesOfTables() {
        Counted spans = Given.oneOf(Given.TABLE, 16, 0);
        spans.due(BAD, spans.come(0, 7, -1001));
        spans.due(Given.LIFT - 1000, spans.come(0, 7, -1000));
        spans.due(Given.LIFT - 1001, spans.come(0, 7, -1));
        spans.due(BAD, spans.come(0, 7, 0));
        spans.due(Given.LIFT - 1000, spans.come(0, 7, 1));
        spans.due(Given.LIFT, spans.come(0, 7, 1000));
        spans.due(BAD, spans.come(0, 7, 1001));
        spans.due(2002, spans.told(0, 4));
    }

    /** "x COMES n times (1 .. 100)" to RANKS. */
    private static void timesOfRanks() {
        Counted spans = Given.oneOf(Given.RANKS, 16, 0);
        spans.due(BAD, spans.come(0, 7, -1));
        spans.due(BAD, spans.come(0, 7, 0));
        spans.due(Given.LIFT + 1, spans.come(0, 7, 1));
        spans.due(Given.LIFT + 101, spans.come(0, 7, 100));
        spans.due(BAD, spans.come(0, 7, 101));
        spans.due(BAD, spans.come(0, 7, 1000));
        spans.due(101, spans.told(0, 4));
    }

    /** "MOVED that of all n without their signs": it does not fall when numbers are taken back. */
    private static void movedHasNoSigns() {
        Counted spans = Given.oneOf(Given.TABLE, 4, 0);
        spans.due(0, spans.told(0, 4));
        spans.come(0, 7, 5);
        spans.come(0, 7, -5);
        spans.due(Given.LIFT, spans.told(0, 3));
        spans.due(10, spans.told(0, 4));
        spans.come(0, 8, -3);
        spans.due(Given.LIFT - 3, spans.told(0, 3));
        spans.due(13, spans.told(0, 4));
    }

    /** "Two are LIKE if they have the same SORT, SIZE and SEED": the nearest that lack one of the three. */
    private static void likeOnesAreLikeInAllThree() {
        for (int sort = 0; sort < Given.SORTS; sort++) {
            int step = sort == Given.RANKS ? 2 : 1;
            Counted spans = Given.oneOf(sort, 18, 5);
            int[] others = {spans.sketch(sort, 18 - step, 5), spans.sketch(sort, 18 + step, 5),
                spans.sketch(sort, 18, 4), spans.sketch(sort, 18, 6),
                spans.sketch(sort == 0 ? 1 : sort - 1, 18, 5), spans.sketch(sort == 4 ? 3 : sort + 1, 18, 5)};
            for (int other : others) {
                spans.due(BAD, spans.merge(0, other));
                spans.due(BAD, spans.merge(other, 0));
            }
            int like = spans.sketch(sort, 18, 5);
            spans.due(Given.LIFT, spans.merge(0, like));
            spans.due(Given.LIFT, spans.merge(like, 0));
        }
    }

    /** "An object is used for at most 512 calls": the last of them is answered as the first ones are. */
    private static void the512thCallIsAnswered() {
        Counted spans = Given.oneOf(Given.RANKS, 4, 0);
        while (spans.callsLeft() > 2) {
            spans.come(0, 7, 1);
        }
        spans.due(Given.LIFT + 510, spans.come(0, 7, 1));
        spans.due(7, spans.quantile(0, 510));
        Check.due("calls that are left", spans.callsLeft(), 0);
    }
}
