/** SORT 2, FILTER: one method for each of its sentences that has an edge. */
final class EdgesOfFilterTest {
    public static void main(String[] args) {
        noneIsSetAtFirst();
        firstAndLastBit(16);
        firstAndLastBit(512);
        timesDoNotMatter();
        allBitsOfAKey();
        allBitsSet();
        madeOneWithBitsOfEither();
        madeOneWithTheFirstAndTheLastBit();
        Check.end();
    }

    private static void bitsAre(Counted spans, int s, int... bits) {
        int set = 0;
        for (int i = 0; i < bits.length; i++) {
            spans.due(bits[i], spans.kept(s, i, 0));
            set += bits[i];
        }
        spans.due(Given.BAD, spans.kept(s, bits.length, 0));
        spans.due(set, spans.told(s, 6));
    }

    /** The BITS that these KEYS have by SEED 0. */
    private static int[] bitsOf(int size, int... keys) {
        int[] bits = new int[size];
        for (int x : keys) {
            for (int j = 0; j < 4; j++) {
                bits[Given.hash(0, j, x) % size] = 1;
            }
        }
        return bits;
    }

    /** "b BITS, none set" */
    private static void noneIsSetAtFirst() {
        Counted least = Given.oneOf(Given.FILTER, 16, 0);
        bitsAre(least, 0, new int[16]);
        least.due(0, least.has(0, 0));
        least.due(0, least.has(0, 9999));
        Counted most = Given.oneOf(Given.FILTER, 512, 0);
        most.due(0, most.told(0, 6));
        most.due(0, most.kept(0, 0, 0));
        most.due(0, most.kept(0, 511, 0));
        most.due(Given.BAD, most.kept(0, 512, 0));
    }

    /** "the BITS at HASH j modulo b": 0 and b - 1 are BITS, b is none. */
    private static void firstAndLastBit(int size) {
        for (int j = 0; j < 4; j++) {
            for (int place : new int[] {0, size - 1}) {
                int x = 0;
                while (Given.hash(0, j, x) % size != place) {
                    x++;
                }
                Counted spans = Given.oneOf(Given.FILTER, size, 0);
                spans.due(0, spans.kept(0, place, 0));
                spans.come(0, x, 1);
                spans.due(1, spans.kept(0, place, 0));
                spans.due(1, spans.has(0, x));
                int set = 0;
                for (int bit : bitsOf(size, x)) {
                    set += bit;
                }
                spans.due(set, spans.told(0, 6));
            }
        }
    }

    /** A BIT is set, however often a KEY comes, and BITS that are set stay so. */
    private static void timesDoNotMatter() {
        Counted spans = Given.oneOf(Given.FILTER, 16, 0);
        spans.come(0, 9, 1);
        bitsAre(spans, 0, bitsOf(16, 9));
        spans.come(0, 9, 1000);
        bitsAre(spans, 0, bitsOf(16, 9));
    }

    /** "whether all of a KEY's BITS are set": KEY 0 has 1, 249, 497, 233 of 512. */
    private static void allBitsOfAKey() {
        for (int lacking = 0; lacking < 4; lacking++) {
            int place = Given.hash(0, lacking, 0) % 512;
            Counted spans = Given.oneOf(Given.FILTER, 512, 0);
            for (int j = 0; j < 4; j++) {
                if (j != lacking) {
                    comeForBit(spans, Given.hash(0, j, 0) % 512, place);
                }
            }
            spans.due(0, spans.kept(0, place, 0));
            spans.due(0, spans.has(0, 0));
            comeForBit(spans, place, -1);
            spans.due(1, spans.has(0, 0));
        }
    }

    /** Another KEY than 0 comes that sets one BIT and does not set another one. */
    private static void comeForBit(Counted spans, int wanted, int unwanted) {
        for (int x = 1; x < 10000; x++) {
            int[] bits = bitsOf(512, x);
            if (bits[wanted] == 1 && (unwanted < 0 || bits[unwanted] == 0)) {
                spans.come(0, x, 1);
                return;
            }
        }
        Check.holds("there is a KEY with BIT " + wanted, false);
    }

    /** A full one has every KEY; one BIT before, it lacks those that have that BIT. */
    private static void allBitsSet() {
        Counted spans = Given.oneOf(Given.FILTER, 16, 0);
        int late = -1;
        for (int x = 0; x < 300; x++) {
            if (bitsOf(16, x)[15] == 0) {
                spans.come(0, x, 1);
            } else {
                late = x;
            }
        }
        spans.due(15, spans.told(0, 6));
        spans.due(0, spans.has(0, late));
        spans.come(0, late, 1);
        spans.due(16, spans.told(0, 6));
        for (int x : new int[] {0, 1, 5000, 9998, 9999}) {
            spans.due(1, spans.has(0, x));
        }
        spans.due(Given.BAD, spans.has(0, 10000));
        spans.come(0, 7777, 1);
        spans.due(16, spans.told(0, 6));
    }

    /** "BITS of either": of none, of one, of both. */
    private static void madeOneWithBitsOfEither() {
        Counted spans = Given.oneOf(Given.FILTER, 16, 0);
        spans.sketch(Given.FILTER, 16, 0);
        spans.due(Given.LIFT, spans.merge(0, 1));
        bitsAre(spans, 0, new int[16]);
        spans.come(1, 9, 2);
        spans.due(Given.LIFT + 2, spans.merge(0, 1));
        bitsAre(spans, 0, bitsOf(16, 9));
        spans.come(0, 40, 1);
        spans.due(Given.LIFT + 5, spans.merge(1, 0));
        bitsAre(spans, 1, bitsOf(16, 9, 40));
        spans.clear(0);
        spans.due(Given.LIFT + 5, spans.merge(1, 0));
        bitsAre(spans, 1, bitsOf(16, 9, 40));
    }

    private static void madeOneWithTheFirstAndTheLastBit() {
        for (int place : new int[] {0, 15}) {
            int x = 0;
            while (bitsOf(16, x)[place] == 0) {
                x++;
            }
            Counted spans = Given.oneOf(Given.FILTER, 16, 0);
            spans.sketch(Given.FILTER, 16, 0);
            spans.come(1, x, 1);
            spans.merge(0, 1);
            spans.due(1, spans.kept(0, place, 0));
            spans.due(1, spans.has(0, x));
            bitsAre(spans, 0, bitsOf(16, x));
        }
    }
}
