/** SORT 0, HEAVY: one method for each of its sentences that has an edge. */
final class EdgesOfHeavyTest {
    public static void main(String[] args) {
        countersAreAtMostSize(1);
        countersAreAtMostSize(20);
        lostIsZeroAtFirst();
        ownCounterGoesFirst();
        comesLessThanTheLeast();
        comesAsMuchAsTheLeast();
        comesMoreThanTheLeast();
        severalGoAtOnce();
        numbersStayAtOne();
        keysAtTheEdgesAreInOrder();
        madeOneWithJustSize();
        madeOneWithOneTooMany();
        madeOneWithTwiceSize();
        madeOneWithSharedKeys();
        madeOneWithTies();
        madeOneOfSizeOne();
        madeOneWithAnEmptyOne();
        numbersAtTheBrim();
        Check.end();
    }

    private static Counted withThree(int first, int second, int third) {
        Counted spans = Given.oneOf(Given.HEAVY, 3, 0);
        spans.come(0, 10, first);
        spans.come(0, 20, second);
        spans.come(0, 30, third);
        heavyIs(spans, 0, 0, 10, first, 20, second, 30, third);
        return spans;
    }

    /** LOST, and KEY and NUMBER of each COUNTER in turn. */
    private static void heavyIs(Counted spans, int s, int lost, int... counters) {
        spans.due(lost, spans.told(s, 5));
        spans.due(counters.length / 2, spans.told(s, 6));
        for (int i = 0; i < counters.length / 2; i++) {
            spans.due(counters[2 * i], spans.kept(s, i, 0));
            spans.due(counters[2 * i + 1], spans.kept(s, i, 1));
        }
        spans.due(Given.BAD, spans.kept(s, counters.length / 2, 0));
        spans.due(Given.BAD, spans.kept(s, counters.length / 2, 1));
    }

    /** "at most k COUNTERS": the k-th KEY has one, the next one does not. */
    private static void countersAreAtMostSize(int size) {
        Counted spans = Given.oneOf(Given.HEAVY, size, 0);
        for (int x = 0; x < size; x++) {
            spans.come(0, x, 2);
            spans.due(x + 1, spans.told(0, 6));
            spans.due(0, spans.told(0, 5));
        }
        spans.come(0, size, 1);
        spans.due(size, spans.told(0, 6));
        spans.due(1, spans.told(0, 5));
        spans.due(0, spans.low(0, size));
        spans.due(1, spans.low(0, size - 1));
        spans.due(1, spans.low(0, 0));
    }

    /** "LOST, 0 at first" */
    private static void lostIsZeroAtFirst() {
        Counted spans = Given.oneOf(Given.HEAVY, 1, 0);
        heavyIs(spans, 0, 0);
    }

    /** "if x has a COUNTER, its NUMBER is n more", though all COUNTERS are taken. */
    private static void ownCounterGoesFirst() {
        Counted spans = withThree(5, 6, 7);
        spans.come(0, 10, 1000);
        spans.come(0, 30, 1);
        heavyIs(spans, 0, 0, 10, 1005, 20, 6, 30, 8);
    }

    /** "d is the least of n and all NUMBERS": it is n. */
    private static void comesLessThanTheLeast() {
        Counted spans = withThree(5, 6, 7);
        spans.come(0, 15, 4);
        heavyIs(spans, 0, 4, 10, 1, 20, 2, 30, 3);
    }

    /** It is n and the least of the NUMBERS: nothing is left of either. */
    private static void comesAsMuchAsTheLeast() {
        Counted spans = withThree(5, 6, 7);
        spans.come(0, 15, 5);
        heavyIs(spans, 0, 5, 20, 1, 30, 2);
        spans.come(0, 15, 1);
        heavyIs(spans, 0, 5, 15, 1, 20, 1, 30, 2);
    }

    /** It is the least of the NUMBERS: what is left of n is a new COUNTER. */
    private static void comesMoreThanTheLeast() {
        Counted first = withThree(5, 6, 7);
        first.come(0, 15, 6);
        heavyIs(first, 0, 5, 15, 1, 20, 1, 30, 2);
        Counted between = withThree(6, 5, 7);
        between.come(0, 15, 6);
        heavyIs(between, 0, 5, 10, 1, 15, 1, 30, 2);
        Counted last = withThree(6, 7, 5);
        last.come(0, 15, 6);
        heavyIs(last, 0, 5, 10, 1, 15, 1, 20, 2);
    }

    /** "COUNTERS with 0 go": all of them. */
    private static void severalGoAtOnce() {
        Counted all = withThree(5, 5, 5);
        all.come(0, 15, 5);
        heavyIs(all, 0, 5);
        Counted allButNew = withThree(5, 5, 5);
        allButNew.come(0, 15, 6);
        heavyIs(allButNew, 0, 5, 15, 1);
        Counted two = withThree(5, 6, 5);
        two.come(0, 15, 1000);
        heavyIs(two, 0, 5, 15, 995, 20, 1);
    }

    /** "a NUMBER, 1 or more": 1 stays, 0 does not. */
    private static void numbersStayAtOne() {
        Counted spans = withThree(2, 2, 3);
        spans.come(0, 15, 1);
        heavyIs(spans, 0, 1, 10, 1, 20, 1, 30, 2);
        spans.come(0, 15, 1);
        heavyIs(spans, 0, 2, 30, 1);
    }

    /** "of COUNTER i, by their KEYS": the first and the last KEY there are. */
    private static void keysAtTheEdgesAreInOrder() {
        Counted spans = Given.oneOf(Given.HEAVY, 3, 0);
        spans.come(0, 9999, 1);
        spans.come(0, 5000, 2);
        spans.come(0, 0, 3);
        heavyIs(spans, 0, 0, 0, 3, 5000, 2, 9999, 1);
    }

    private static Counted withOther(int... counters) {
        Counted spans = withThree(5, 6, 7);
        spans.sketch(Given.HEAVY, 3, 0);
        for (int i = 0; i < counters.length; i += 2) {
            spans.come(1, counters[i], counters[i + 1]);
        }
        return spans;
    }

    /** "if there are more than k COUNTERS then": k are not. */
    private static void madeOneWithJustSize() {
        Counted spans = Given.oneOf(Given.HEAVY, 3, 0);
        spans.sketch(Given.HEAVY, 3, 0);
        spans.come(0, 1, 1);
        spans.come(1, 0, 1);
        spans.come(1, 2, 1);
        spans.due(Given.LIFT + 3, spans.merge(0, 1));
        heavyIs(spans, 0, 0, 0, 1, 1, 1, 2, 1);
    }

    /** k + 1 are: "d is the NUMBER of the one that is k + 1 st by NUMBER, the greatest first". */
    private static void madeOneWithOneTooMany() {
        Counted other = withOther(15, 4);
        other.due(Given.LIFT + 22, other.merge(0, 1));
        heavyIs(other, 0, 4, 10, 1, 20, 2, 30, 3);
        heavyIs(other, 1, 0, 15, 4);
        Counted own = withOther(15, 9);
        own.due(Given.LIFT + 27, own.merge(0, 1));
        heavyIs(own, 0, 5, 15, 4, 20, 1, 30, 2);
    }

    private static void madeOneWithTwiceSize() {
        Counted spans = Given.oneOf(Given.HEAVY, 20, 0);
        spans.sketch(Given.HEAVY, 20, 0);
        for (int i = 0; i < 20; i++) {
            spans.come(0, 2 * i, 1 + 2 * i);
            spans.come(1, 2 * i + 1, 2 + 2 * i);
        }
        // KEY x has x + 1: from 1 to 40; the 21 st of them is 20.
        spans.due(Given.LIFT + 820, spans.merge(0, 1));
        spans.due(20, spans.told(0, 5));
        spans.due(20, spans.told(0, 6));
        spans.due(0, spans.low(0, 19));
        spans.due(20, spans.kept(0, 0, 0));
        spans.due(1, spans.kept(0, 0, 1));
        spans.due(39, spans.kept(0, 19, 0));
        spans.due(20, spans.kept(0, 19, 1));
    }

    /** "NUMBERS and LOST are added up": KEYS of both count once. */
    private static void madeOneWithSharedKeys() {
        Counted spans = withOther(10, 1000, 20, 1, 30, 1, 15, 1);
        heavyIs(spans, 1, 1, 10, 999);
        spans.come(1, 30, 2);
        spans.merge(0, 1);
        heavyIs(spans, 0, 1, 10, 1004, 20, 6, 30, 9);
    }

    /** "those that are not above 0 go": more than are too many, if they are as great as the k + 1 st. */
    private static void madeOneWithTies() {
        Counted last = withOther(15, 5);
        last.merge(0, 1);
        heavyIs(last, 0, 5, 20, 1, 30, 2);
        Counted all = Given.oneOf(Given.HEAVY, 2, 0);
        all.sketch(Given.HEAVY, 2, 0);
        Given.comeEach(all, 0, 1, 2);
        Given.comeEach(all, 1, 3);
        all.merge(0, 1);
        heavyIs(all, 0, 1);
        heavyIs(all, 1, 0, 3, 1);
    }

    private static void madeOneOfSizeOne() {
        Counted spans = Given.oneOf(Given.HEAVY, 1, 0);
        spans.sketch(Given.HEAVY, 1, 0);
        spans.come(0, 4, 9);
        spans.come(1, 5, 8);
        spans.merge(0, 1);
        heavyIs(spans, 0, 8, 4, 1);
        spans.merge(1, 0);
        // 5: 8 and 4: 1, LOST 8: the second is 1.
        heavyIs(spans, 1, 9, 5, 7);
    }

    /** One to which nothing came, and one that has LOST but no COUNTERS. */
    private static void madeOneWithAnEmptyOne() {
        Counted spans = withOther();
        spans.due(Given.LIFT + 18, spans.merge(0, 1));
        heavyIs(spans, 0, 0, 10, 5, 20, 6, 30, 7);
        Given.comeEach(spans, 1, 1, 2, 3, 4);
        heavyIs(spans, 1, 1);
        spans.due(Given.LIFT + 22, spans.merge(0, 1));
        heavyIs(spans, 0, 1, 10, 5, 20, 6, 30, 7);
        spans.due(Given.LIFT + 26, spans.merge(1, 0));
        heavyIs(spans, 1, 2, 10, 5, 20, 6, 30, 7);
    }

    private static void numbersAtTheBrim() {
        Counted spans = Given.oneOf(Given.HEAVY, 1, 0);
        spans.sketch(Given.HEAVY, 1, 0);
        Given.fillToTheBrim(spans, 9, 1000);
        heavyIs(spans, 0, 0, 9, 10_000_000);
        spans.due(10_000_000, spans.low(0, 9));
        spans.due(10_000_000, spans.high(0, 9));
        spans.due(0, spans.high(0, 8));
    }
}
