/** SORT 3, LEAST: one method for each of its sentences that has an edge. By SEED 0 HASH 0 of x is x + 1. */
final class EdgesOfLeastTest {
    public static void main(String[] args) {
        noneIsKeptAtFirst();
        fewerThanSize();
        justSize();
        greaterThanAllThatAreKept();
        lessThanTheGreatest();
        eachOnce();
        largestSize();
        hashesAtTheirEdges();
        madeOneWithFewerThanSize();
        madeOneWithMoreThanSize();
        madeOneWithTheSame();
        Check.end();
    }

    private static Counted withThree() {
        Counted spans = Given.oneOf(Given.LEAST, 3, 0);
        Given.comeEach(spans, 0, 20, 10, 30);
        Given.keptIs(spans, 0, 0, 11, 21, 31);
        return spans;
    }

    private static void noneIsKeptAtFirst() {
        Counted spans = Given.oneOf(Given.LEAST, 2, 0);
        Given.keptIs(spans, 0, 0);
        spans.due(0, spans.told(0, 6));
        spans.due(0, spans.distinct(0));
        spans.due(0, spans.has(0, 0));
    }

    /** "(all, if they are fewer)" */
    private static void fewerThanSize() {
        Counted spans = Given.oneOf(Given.LEAST, 3, 0);
        Given.comeEach(spans, 0, 9999, 5);
        Given.keptIs(spans, 0, 0, 6, 10000);
        spans.due(1, spans.has(0, 9999));
        spans.due(2, spans.told(0, 6));
        spans.due(2, spans.distinct(0));
    }

    private static void justSize() {
        Counted spans = withThree();
        spans.due(3, spans.told(0, 6));
        spans.due(1, spans.has(0, 10));
        spans.due(1, spans.has(0, 30));
        // 2 times 65,537 divided by 31.
        spans.due(4228, spans.distinct(0));
    }

    /** "the k least": one that is just greater than the last is not kept. */
    private static void greaterThanAllThatAreKept() {
        Counted spans = withThree();
        Given.comeEach(spans, 0, 31);
        Given.keptIs(spans, 0, 0, 11, 21, 31);
        spans.due(0, spans.has(0, 31));
        spans.due(1, spans.has(0, 30));
        spans.due(Given.LIFT + 4, spans.told(0, 3));
    }

    /** One that is just less than the last is, and the last goes. */
    private static void lessThanTheGreatest() {
        Counted last = withThree();
        Given.comeEach(last, 0, 29);
        Given.keptIs(last, 0, 0, 11, 21, 30);
        last.due(0, last.has(0, 30));
        Counted first = withThree();
        Given.comeEach(first, 0, 9);
        Given.keptIs(first, 0, 0, 10, 11, 21);
        first.due(0, first.has(0, 30));
        first.due(1, first.has(0, 20));
    }

    /** "each once": the first, one between and the last of those that are kept come again. */
    private static void eachOnce() {
        Counted spans = withThree();
        Given.comeEach(spans, 0, 10, 20, 30);
        spans.come(0, 10, 1000);
        Given.keptIs(spans, 0, 0, 11, 21, 31);
        Counted few = Given.oneOf(Given.LEAST, 3, 0);
        few.come(0, 7, 3);
        few.come(0, 7, 1);
        Given.keptIs(few, 0, 0, 8);
    }

    private static void largestSize() {
        Counted spans = Given.oneOf(Given.LEAST, 32, 0);
        for (int x = 33; x > 2; x--) {
            spans.come(0, x, 1);
        }
        spans.due(31, spans.told(0, 6));
        spans.due(31, spans.distinct(0));
        spans.come(0, 2, 1);
        spans.due(32, spans.told(0, 6));
        // 31 times 65,537 divided by 34.
        spans.due(59754, spans.distinct(0));
        spans.come(0, 1, 1);
        spans.due(32, spans.told(0, 6));
        spans.due(2, spans.kept(0, 0, 0));
        spans.due(33, spans.kept(0, 31, 0));
        spans.due(Given.BAD, spans.kept(0, 32, 0));
        // 31 times 65,537 divided by 33.
        spans.due(61565, spans.distinct(0));
    }

    /** By SEED 8 HASH 0 of KEY 8158 is 0, the least, and of KEY 9474 it is 65,536, the greatest. */
    private static void hashesAtTheirEdges() {
        Counted spans = Given.oneOf(Given.LEAST, 2, 8);
        Given.comeEach(spans, 0, 9474);
        spans.due(1, spans.distinct(0));
        Given.comeEach(spans, 0, 8158);
        Given.keptIs(spans, 0, 0, 0, 65536);
        // 65,537 divided by 65,536, whole.
        spans.due(1, spans.distinct(0));
        spans.due(1, spans.has(0, 8158));
        spans.due(1, spans.has(0, 9474));
        Given.comeEach(spans, 0, 0);
        // 249 and 56.
        Given.keptIs(spans, 0, 0, 0, 305);
        spans.due(214, spans.distinct(0));
        // By SEED 3 HASH 0 of KEY 7668 is 0 and of KEY 4182 it is 1: no divisor is less.
        Counted small = Given.oneOf(Given.LEAST, 2, 3);
        Given.comeEach(small, 0, 7668, 4182, 5);
        Given.keptIs(small, 0, 0, 0, 1);
        small.due(65537, small.distinct(0));
    }

    /** "the k least of both": all, if both have k together. */
    private static void madeOneWithFewerThanSize() {
        Counted spans = Given.oneOf(Given.LEAST, 3, 0);
        spans.sketch(Given.LEAST, 3, 0);
        spans.due(Given.LIFT, spans.merge(0, 1));
        Given.keptIs(spans, 0, 0);
        Given.comeEach(spans, 1, 5, 7);
        spans.due(Given.LIFT + 2, spans.merge(0, 1));
        Given.keptIs(spans, 0, 0, 6, 8);
        spans.clear(1);
        Given.comeEach(spans, 1, 6);
        spans.due(Given.LIFT + 3, spans.merge(0, 1));
        Given.keptIs(spans, 0, 0, 6, 7, 8);
    }

    private static void madeOneWithMoreThanSize() {
        Counted spans = withThree();
        spans.sketch(Given.LEAST, 3, 0);
        Given.comeEach(spans, 1, 31);
        spans.merge(0, 1);
        Given.keptIs(spans, 0, 0, 11, 21, 31);
        Given.comeEach(spans, 1, 29);
        spans.merge(0, 1);
        Given.keptIs(spans, 0, 0, 11, 21, 30);
        spans.clear(1);
        Given.comeEach(spans, 1, 0, 1, 2);
        spans.merge(0, 1);
        Given.keptIs(spans, 0, 0, 1, 2, 3);
        spans.due(1, spans.has(0, 2));
        spans.due(0, spans.has(0, 10));
    }

    /** "each once": two that keep the same keep no more when they are one. */
    private static void madeOneWithTheSame() {
        Counted spans = Given.oneOf(Given.LEAST, 3, 0);
        Given.comeEach(spans, 0, 4, 2);
        spans.copy(0);
        spans.due(Given.LIFT + 4, spans.merge(0, 1));
        Given.keptIs(spans, 0, 0, 3, 5);
        spans.due(2, spans.distinct(0));
    }
}
