/** SORT 4, RANKS: one method for each of its sentences that has an edge. */
final class EdgesOfRanksTest {
    private static final int BAD = Given.BAD;

    public static void main(String[] args) {
        buffersAreEmptyAtFirst();
        collapsesAsSoonAsItHasSize(4);
        collapsesAsSoonAsItHasSize(32);
        keysGoBehindThoseThere();
        turnsChangeEachTime();
        turnsAreOfEachBuffer();
        comesOftenerThanABufferHolds();
        comesAsOftenAsMayBe();
        sameKeysCollapse();
        madeOneWithoutACollapse();
        madeOneWithACollapseBetween();
        collapseBetweenIsNotBehind();
        madeOneFromBufferZeroOn();
        madeOneWithItsOwnTurns();
        madeOneWithAnEmptyOne();
        buffersAboveGetHalfASize();
        copyHasTheTurns();
        lowIsNotBelowZero();
        highIsNotAboveTotal();
        quantileAtWeights();
        quantileOfNothing();
        weightsAtTheBrim(4);
        weightsAtTheBrim(32);
        Check.end();
    }

    private static void errorIs(Counted spans, int s, int error) {
        spans.due(error, spans.told(s, 5));
    }

    private static void comeFromTo(Counted spans, int s, int first, int last) {
        for (int x = first; x <= last; x++) {
            spans.come(s, x, 1);
        }
    }

    /** "BUFFERS 0, 1, .. of KEYS"; "ERROR, 0 at first" */
    private static void buffersAreEmptyAtFirst() {
        Counted spans = Given.oneOf(Given.RANKS, 4, 0);
        for (int buffer = 0; buffer <= 30; buffer++) {
            Given.bufferIs(spans, 0, buffer);
        }
        errorIs(spans, 0, 0);
        spans.due(0, spans.told(0, 6));
    }

    /** "As soon as a BUFFER i has k KEYS it COLLAPSES": k - 1 stay as they lie. */
    private static void collapsesAsSoonAsItHasSize(int size) {
        Counted spans = Given.oneOf(Given.RANKS, size, 0);
        for (int x = size; x > 1; x--) {
            spans.come(0, x, 1);
        }
        spans.due(size - 1, spans.kept(0, -1, 0));
        spans.due(size - 1, spans.told(0, 6));
        spans.due(size, spans.kept(0, 0, 0));
        spans.due(2, spans.kept(0, size - 2, 0));
        spans.due(BAD, spans.kept(0, size - 1, 0));
        errorIs(spans, 0, 0);
        spans.come(0, 1, 1);
        spans.due(0, spans.kept(0, -1, 0));
        spans.due(BAD, spans.kept(0, 0, 0));
        spans.due(size / 2, spans.kept(0, -1, 1));
        spans.due(size / 2, spans.told(0, 6));
        for (int i = 0; i < size / 2; i++) {
            spans.due(1 + 2 * i, spans.kept(0, i, 1));
        }
        spans.due(BAD, spans.kept(0, size / 2, 1));
        errorIs(spans, 0, 1);
        spans.come(0, 9, 1);
        spans.due(9, spans.kept(0, 0, 0));
        errorIs(spans, 0, 1);
    }

    /** "it goes behind those in BUFFER 0", and behind those in BUFFER i + 1: no order but in a COLLAPSE. */
    private static void keysGoBehindThoseThere() {
        Counted spans = Given.oneOf(Given.RANKS, 6, 0);
        Given.comeEach(spans, 0, 9999, 0, 5000, 0, 9999);
        Given.bufferIs(spans, 0, 0, 9999, 0, 5000, 0, 9999);
        Given.comeEach(spans, 0, 1);
        Given.bufferIs(spans, 0, 1, 0, 1, 9999);
        Given.comeEach(spans, 0, 3, 2);
        Given.bufferIs(spans, 0, 0, 3, 2);
    }

    /** "by TURN 0 the first, third, ..; by TURN 1 the second, fourth, ..; its TURN is the other one then" */
    private static void turnsChangeEachTime() {
        Counted spans = Given.oneOf(Given.RANKS, 8, 0);
        comeFromTo(spans, 0, 11, 18);
        Given.bufferIs(spans, 0, 1, 11, 13, 15, 17);
        spans.clear(0);
        comeFromTo(spans, 0, 11, 18);
        comeFromTo(spans, 0, 21, 28);
        // 11 13 15 17 22 24 26 28
        Given.bufferIs(spans, 0, 1);
        Given.bufferIs(spans, 0, 2, 11, 15, 22, 26);
        comeFromTo(spans, 0, 31, 38);
        Given.bufferIs(spans, 0, 1, 31, 33, 35, 37);
        errorIs(spans, 0, 1 + 1 + 2 + 1);
    }

    /** "each BUFFER has a TURN", and "ERROR is 2 ^ i more": all of them in one call. */
    private static void turnsAreOfEachBuffer() {
        Counted spans = Given.oneOf(Given.RANKS, 4, 0);
        comeFromTo(spans, 0, 1, 15);
        Given.bufferIs(spans, 0, 0, 13, 14, 15);
        Given.bufferIs(spans, 0, 1, 9, 11);
        Given.bufferIs(spans, 0, 2, 1, 6);
        errorIs(spans, 0, 1 + 1 + 2 + 1);
        spans.come(0, 16, 1);
        // 14 16 by TURN 1; of 9 11 14 16 then 11 16 by TURN 1; of 1 6 11 16 then 1 11 by TURN 0.
        Given.bufferIs(spans, 0, 0);
        Given.bufferIs(spans, 0, 1);
        Given.bufferIs(spans, 0, 2);
        Given.bufferIs(spans, 0, 3, 1, 11);
        errorIs(spans, 0, 5 + 1 + 2 + 4);
    }

    /** "so often, one by one": a BUFFER COLLAPSES while one call lasts. */
    private static void comesOftenerThanABufferHolds() {
        Counted spans = Given.oneOf(Given.RANKS, 4, 0);
        Given.comeEach(spans, 0, 9, 8);
        spans.due(Given.LIFT + 5, spans.come(0, 5, 3));
        // 9 8 5 5: the first and third of 5 5 8 9.
        Given.bufferIs(spans, 0, 0, 5);
        Given.bufferIs(spans, 0, 1, 5, 8);
        spans.due(Given.LIFT + 8, spans.come(0, 7, 3));
        // 5 7 7 7: the second and fourth; then of 5 7 7 8 the first and third.
        Given.bufferIs(spans, 0, 0);
        Given.bufferIs(spans, 0, 1);
        Given.bufferIs(spans, 0, 2, 5, 7);
    }

    /** n 100, the most: 25 COLLAPSES of BUFFER 0, then 12, 6, 3 and 1. */
    private static void comesAsOftenAsMayBe() {
        Counted spans = Given.oneOf(Given.RANKS, 4, 0);
        spans.due(Given.LIFT + 100, spans.come(0, 7, 100));
        int[] lengths = {0, 2, 0, 0, 2, 2, 0};
        for (int buffer = 0; buffer < lengths.length; buffer++) {
            spans.due(lengths[buffer], spans.kept(0, -1, buffer));
        }
        errorIs(spans, 0, 25 + 12 * 2 + 6 * 4 + 3 * 8 + 16);
        spans.due(0, spans.low(0, 7));
        spans.due(100, spans.high(0, 7));
        spans.due(100, spans.high(0, 6));
        spans.due(7, spans.quantile(0, 100));
        spans.due(BAD, spans.quantile(0, 101));
    }

    private static void sameKeysCollapse() {
        Counted spans = Given.oneOf(Given.RANKS, 4, 0);
        Given.comeEach(spans, 0, 0, 9999, 9999, 0);
        Given.bufferIs(spans, 0, 1, 0, 9999);
        Given.comeEach(spans, 0, 9999, 9999, 0, 9999);
        // 0 9999 9999 9999: the second and fourth; then of 0 9999 9999 9999 the first and third.
        Given.bufferIs(spans, 0, 2, 0, 9999);
    }

    private static Counted twoOfFour() {
        Counted spans = Given.oneOf(Given.RANKS, 4, 0);
        spans.sketch(Given.RANKS, 4, 0);
        return spans;
    }

    /** "one by one behind those of the same BUFFER": both have k - 1 together. */
    private static void madeOneWithoutACollapse() {
        Counted spans = twoOfFour();
        Given.comeEach(spans, 0, 9);
        Given.comeEach(spans, 1, 8, 1);
        spans.due(Given.LIFT + 3, spans.merge(0, 1));
        Given.bufferIs(spans, 0, 0, 9, 8, 1);
        errorIs(spans, 0, 0);
    }

    /** "(which may COLLAPSE between)": both have k together, and as many as there can be. */
    private static void madeOneWithACollapseBetween() {
        Counted justSize = twoOfFour();
        Given.comeEach(justSize, 0, 9, 2);
        Given.comeEach(justSize, 1, 8, 1);
        justSize.merge(0, 1);
        Given.bufferIs(justSize, 0, 0);
        Given.bufferIs(justSize, 0, 1, 1, 8);
        errorIs(justSize, 0, 1);
        Counted most = twoOfFour();
        Given.comeEach(most, 0, 9, 2, 7);
        Given.comeEach(most, 1, 5, 8, 1);
        most.merge(0, 1);
        Given.bufferIs(most, 0, 0, 8, 1);
        Given.bufferIs(most, 0, 1, 2, 7);
        Given.bufferIs(most, 1, 0, 5, 8, 1);
        errorIs(most, 0, 1);
        errorIs(most, 1, 0);
    }

    /** The same KEYS, which would give other ones if all came before BUFFER 0 COLLAPSED, or were put in order first. */
    private static void collapseBetweenIsNotBehind() {
        for (int size : new int[] {4, 32}) {
            Counted spans = Given.oneOf(Given.RANKS, size, 0);
            spans.sketch(Given.RANKS, size, 0);
            comeFromTo(spans, 0, 5001, 5000 + size - 1);
            // The greatest one comes first and so is the last that BUFFER 0 takes before it COLLAPSES.
            spans.come(1, 9999, 1);
            comeFromTo(spans, 1, 1, size - 2);
            spans.merge(0, 1);
            spans.due(size - 2, spans.kept(0, -1, 0));
            spans.due(1, spans.kept(0, 0, 0));
            spans.due(size - 2, spans.kept(0, size - 3, 0));
            spans.due(size / 2, spans.kept(0, -1, 1));
            spans.due(5001, spans.kept(0, 0, 1));
            spans.due(5000 + size - 1, spans.kept(0, size / 2 - 1, 1));
            errorIs(spans, 0, 1);
        }
    }

    /** "from its BUFFER 0 on, as they lie"; "its ERROR is added" */
    private static void madeOneFromBufferZeroOn() {
        Counted spans = twoOfFour();
        Given.comeEach(spans, 0, 1, 2, 3, 4, 10, 11, 12);
        Given.comeEach(spans, 1, 5, 6, 7, 8, 20);
        spans.due(Given.LIFT + 12, spans.merge(0, 1));
        // 10 11 12 20: by TURN 1 go 11 20 to 1 3, of these 1 11; only then come 5 7.
        Given.bufferIs(spans, 0, 0);
        Given.bufferIs(spans, 0, 1, 5, 7);
        Given.bufferIs(spans, 0, 2, 1, 11);
        errorIs(spans, 0, 1 + 1 + 2 + 1);
        Given.bufferIs(spans, 1, 0, 20);
        Given.bufferIs(spans, 1, 1, 5, 7);
        errorIs(spans, 1, 1);
    }

    /** "(TURNS are the own ones.)": neither takes the other's, whichever is at 1. */
    private static void madeOneWithItsOwnTurns() {
        Counted atZero = twoOfFour();
        Given.comeEach(atZero, 1, 1, 2, 3, 4);
        atZero.merge(0, 1);
        Given.comeEach(atZero, 0, 5, 6, 7, 8);
        // By TURN 0 go 5 7 to 1 3.
        Given.bufferIs(atZero, 0, 2, 1, 5);
        Given.comeEach(atZero, 1, 5, 6, 7, 8);
        // By TURN 1 go 6 8 to 1 3.
        Given.bufferIs(atZero, 1, 2, 1, 6);
        Counted atOne = twoOfFour();
        Given.comeEach(atOne, 0, 1, 2, 3, 4);
        Given.comeEach(atOne, 1, 9);
        atOne.merge(0, 1);
        Given.comeEach(atOne, 0, 5, 6, 7);
        // Of 5 6 7 9 by TURN 1 go 6 9 to 1 3.
        Given.bufferIs(atOne, 0, 2, 1, 6);
    }

    private static void madeOneWithAnEmptyOne() {
        Counted spans = twoOfFour();
        spans.due(Given.LIFT, spans.merge(0, 1));
        Given.bufferIs(spans, 0, 0);
        Given.comeEach(spans, 0, 4, 3, 2, 1, 7);
        spans.due(Given.LIFT + 5, spans.merge(0, 1));
        Given.bufferIs(spans, 0, 0, 7);
        Given.bufferIs(spans, 0, 1, 1, 3);
        spans.due(Given.LIFT + 5, spans.merge(1, 0));
        Given.bufferIs(spans, 1, 0, 7);
        Given.bufferIs(spans, 1, 1, 1, 3);
        errorIs(spans, 1, 1);
    }

    /** A COLLAPSE hands on k / 2 KEYS, so that a BUFFER above 0 has none or k / 2 when a call ends. */
    private static void buffersAboveGetHalfASize() {
        for (int size = 4; size <= 32; size += 2) {
            Counted spans = Given.oneOf(Given.RANKS, size, 0);
            spans.sketch(Given.RANKS, size, 0);
            for (int time = 0; time < 20; time++) {
                spans.come(time % 2, 37 * time, 1 + 29 * time % 100);
                if (time % 4 == 3) {
                    spans.merge(time / 4 % 2, 1 - time / 4 % 2);
                }
                for (int buffer = 1; buffer <= 8; buffer++) {
                    int length = spans.kept(time % 2, -1, buffer);
                    Check.holds("BUFFER " + buffer + " of " + size + " has " + length,
                            length == 0 || length == size / 2);
                }
            }
        }
    }

    /** Promise 3: "as one is": the TURN of BUFFER 0 is 1, that of BUFFER 1 is 0. */
    private static void copyHasTheTurns() {
        Counted spans = Given.oneOf(Given.RANKS, 4, 0);
        comeFromTo(spans, 0, 1, 4);
        spans.due(1, spans.copy(0));
        comeFromTo(spans, 1, 5, 8);
        // By TURN 1 go 6 8 to 1 3, of these by TURN 0 1 6.
        Given.bufferIs(spans, 1, 2, 1, 6);
        comeFromTo(spans, 0, 5, 8);
        Given.bufferIs(spans, 0, 2, 1, 6);
    }

    /** "WEIGHTS of those, less ERROR; not below 0": WEIGHTS one below ERROR, as great, one above. */
    private static void lowIsNotBelowZero() {
        Counted spans = Given.oneOf(Given.RANKS, 4, 0);
        Given.comeEach(spans, 0, 5, 6, 7, 8, 3);
        // 5 7 with WEIGHT 2, 3 with 1, ERROR 1.
        spans.due(0, spans.low(0, 2));
        spans.due(0, spans.low(0, 3));
        Given.comeEach(spans, 0, 4);
        spans.due(1, spans.low(0, 4));
        spans.due(3, spans.low(0, 5));
    }

    /** "with ERROR more, not above TOTAL": one below TOTAL, just TOTAL, one above. */
    private static void highIsNotAboveTotal() {
        Counted spans = Given.oneOf(Given.RANKS, 4, 0);
        Given.comeEach(spans, 0, 5, 6, 7, 8, 9, 10);
        // 5 7 with WEIGHT 2, 9 10 with 1, ERROR 1, TOTAL 6.
        spans.due(1, spans.high(0, 4));
        spans.due(3, spans.high(0, 5));
        spans.due(5, spans.high(0, 7));
        spans.due(6, spans.high(0, 9));
        spans.due(6, spans.high(0, 10));
        spans.due(6, spans.high(0, 9999));
    }

    /** "the least KEY that is kept so that the WEIGHTS of those not above it are q or more" */
    private static void quantileAtWeights() {
        Counted spans = Given.oneOf(Given.RANKS, 4, 0);
        Given.comeEach(spans, 0, 0, 6, 7, 8, 9999);
        // 0 7 with WEIGHT 2, 9999 with 1.
        spans.due(BAD, spans.quantile(0, -1));
        spans.due(BAD, spans.quantile(0, 0));
        spans.due(0, spans.quantile(0, 1));
        spans.due(0, spans.quantile(0, 2));
        spans.due(7, spans.quantile(0, 3));
        spans.due(7, spans.quantile(0, 4));
        spans.due(9999, spans.quantile(0, 5));
        spans.due(BAD, spans.quantile(0, 6));
        Given.comeEach(spans, 0, 7);
        spans.due(7, spans.quantile(0, 5));
        spans.due(9999, spans.quantile(0, 6));
        spans.due(BAD, spans.quantile(0, 7));
    }

    /** "q not 1 .. TOTAL": of nothing there is no q. */
    private static void quantileOfNothing() {
        Counted spans = Given.oneOf(Given.RANKS, 4, 0);
        spans.due(BAD, spans.quantile(0, 0));
        spans.due(BAD, spans.quantile(0, 1));
        spans.come(0, 0, 1);
        spans.due(0, spans.quantile(0, 1));
        spans.due(BAD, spans.quantile(0, 2));
        spans.clear(0);
        spans.due(BAD, spans.quantile(0, 1));
    }

    /** "A KEY in BUFFER i WEIGHS 2 ^ i": the WEIGHTS are TOTAL at the brim too, and no answer wraps around. */
    private static void weightsAtTheBrim(int size) {
        Counted spans = Given.oneOf(Given.RANKS, size, 0);
        spans.sketch(Given.RANKS, size, 0);
        Given.fillToTheBrim(spans, 7, 100);
        long weight = 0;
        int howMany = 0;
        for (int buffer = 0; buffer <= 30; buffer++) {
            int length = spans.kept(0, -1, buffer);
            Check.holds("BUFFER " + buffer + " is not full", length >= 0 && length < size);
            weight += (long) length << buffer;
            howMany += length;
        }
        Check.due("all WEIGHTS", weight, 10_000_000);
        spans.due(howMany, spans.told(0, 6));
        int error = spans.told(0, 5);
        spans.due(Math.max(0, 10_000_000 - error), spans.low(0, 7));
        spans.due(0, spans.low(0, 6));
        spans.due(10_000_000, spans.high(0, 7));
        spans.due(Math.min(10_000_000, error), spans.high(0, 6));
        spans.due(7, spans.quantile(0, 1));
        spans.due(7, spans.quantile(0, 10_000_000));
        spans.due(BAD, spans.quantile(0, 10_000_001));
        spans.due(Given.FULL, spans.come(0, 7, 1));
    }
}
