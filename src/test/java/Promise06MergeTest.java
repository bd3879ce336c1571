/** Promise 6: merge. */
final class Promise06MergeTest {
    public static void main(String[] args) {
        heavyWithRoom();
        heavyWithoutRoom();
        heavyWithTies();
        table();
        filter();
        least();
        ranks();
        ranksKeepTheirTurns();
        for (int sort = 0; sort < Given.SORTS; sort++) {
            notLike(sort);
            otherStays(sort);
            brim(sort);
        }
        refusals();
        Check.end();
    }

    private static Counted twoOf(int sort, int size, int seed) {
        Counted spans = Given.oneOf(sort, size, seed);
        Check.due("sketch", spans.sketch(sort, size, seed), 1);
        return spans;
    }

    private static void heavyWithRoom() {
        Counted spans = twoOf(Given.HEAVY, 3, 0);
        spans.come(0, 5, 2);
        spans.come(1, 1, 4);
        spans.come(1, 5, 6);
        spans.come(1, 9, 1);
        Check.due("merge", spans.merge(0, 1), Given.LIFT + 13);
        Given.keptIs(spans, 0, 0, 1, 5, 9);
        Given.keptIs(spans, 0, 1, 4, 8, 1);
        Check.due("LOST", spans.told(0, 5), 0);
    }

    private static void heavyWithoutRoom() {
        Counted spans = twoOf(Given.HEAVY, 2, 0);
        spans.come(0, 1, 10);
        spans.come(0, 2, 4);
        spans.come(0, 3, 1);
        spans.come(1, 5, 7);
        spans.come(1, 6, 6);
        spans.come(1, 7, 2);
        // 1: 9, 2: 3, LOST 1; 5: 5, 6: 4, LOST 2; the third by NUMBER is 4.
        Check.due("merge", spans.merge(0, 1), Given.LIFT + 30);
        Given.keptIs(spans, 0, 0, 1, 5);
        Given.keptIs(spans, 0, 1, 5, 1);
        Check.due("LOST", spans.told(0, 5), 7);
        Check.due("MOVED", spans.told(0, 4), 30);
    }

    private static void heavyWithTies() {
        Counted spans = twoOf(Given.HEAVY, 2, 0);
        spans.come(0, 1, 3);
        spans.come(0, 2, 3);
        spans.come(1, 3, 3);
        spans.come(1, 4, 8);
        spans.merge(0, 1);
        Given.keptIs(spans, 0, 0, 4);
        Given.keptIs(spans, 0, 1, 5);
        Check.due("LOST", spans.told(0, 5), 3);
        Counted even = twoOf(Given.HEAVY, 20, 0);
        for (int i = 0; i < 20; i++) {
            even.come(0, i, 5);
            even.come(1, 20 + i, 5);
        }
        even.merge(0, 1);
        Check.due("none is left", even.told(0, 6), 0);
        Check.due("LOST", even.told(0, 5), 5);
    }

    private static void table() {
        Counted spans = twoOf(Given.TABLE, 4, 2);
        spans.come(0, 11, 100);
        spans.come(1, 11, -300);
        spans.come(1, 12, 7);
        spans.copy(0);
        Check.due("merge", spans.merge(0, 1), Given.LIFT - 193);
        Check.due("MOVED", spans.told(0, 4), 407);
        for (int i = 0; i < 16; i++) {
            int sum = spans.kept(2, i, 0) + spans.kept(1, i, 0) - Given.LIFT;
            Check.due("CELL " + i, spans.kept(0, i, 0), sum);
        }
    }

    private static void filter() {
        Counted spans = twoOf(Given.FILTER, 64, 2);
        spans.come(0, 11, 1);
        spans.come(1, 4000, 1);
        spans.copy(0);
        Check.due("merge", spans.merge(0, 1), Given.LIFT + 2);
        for (int i = 0; i < 64; i++) {
            Check.due("BIT " + i, spans.kept(0, i, 0), spans.kept(2, i, 0) | spans.kept(1, i, 0));
        }
    }

    private static void least() {
        Counted spans = twoOf(Given.LEAST, 4, 0);
        Given.comeEach(spans, 0, 10, 30, 50);
        Given.comeEach(spans, 1, 20, 30, 40, 60);
        Check.due("merge", spans.merge(0, 1), Given.LIFT + 7);
        Given.keptIs(spans, 0, 0, 11, 21, 31, 41);
        Given.keptIs(spans, 1, 0, 21, 31, 41, 61);
    }

    private static void ranks() {
        Counted spans = twoOf(Given.RANKS, 4, 0);
        Given.comeEach(spans, 0, 8, 6);
        Given.comeEach(spans, 1, 1, 2, 3, 4, 9, 5, 7);
        Given.bufferIs(spans, 1, 0, 9, 5, 7);
        Given.bufferIs(spans, 1, 1, 1, 3);
        Check.due("merge", spans.merge(0, 1), Given.LIFT + 9);
        // 8 6 9 5: by TURN 0 go 5 8; then 7 is left, then 1 3 come behind: by TURN 0 go 1 5.
        Given.bufferIs(spans, 0, 0, 7);
        Given.bufferIs(spans, 0, 1);
        Given.bufferIs(spans, 0, 2, 1, 5);
        Check.due("ERROR", spans.told(0, 5), 1 + 2 + 1);
    }

    private static void ranksKeepTheirTurns() {
        Counted spans = twoOf(Given.RANKS, 4, 0);
        Given.comeEach(spans, 1, 1, 2, 3, 4);
        spans.merge(0, 1);
        Given.comeEach(spans, 0, 5, 6, 7, 8);
        // The TURN of BUFFER 0 is its own one, 0: 5 7 go, and of 1 3 5 7 then 1 5.
        Given.bufferIs(spans, 0, 2, 1, 5);
    }

    private static void notLike(int sort) {
        Counted spans = Given.oneOf(sort, 16, 5);
        spans.sketch(sort, 18, 5);
        spans.sketch(sort, 16, 6);
        spans.sketch((sort + 1) % Given.SORTS, 16, 5);
        spans.sketch(sort, 16, 5);
        for (int other = 1; other <= 3; other++) {
            Check.due("merge(0, " + other + ")", spans.merge(0, other), Given.BAD);
            Check.due("merge(" + other + ", 0)", spans.merge(other, 0), Given.BAD);
        }
        Check.due("merge(0, 0)", spans.merge(0, 0), Given.BAD);
        Check.due("merge(0, 4)", spans.merge(0, 4), Given.LIFT);
        Check.due("merge(4, 0)", spans.merge(4, 0), Given.LIFT);
    }

    private static void otherStays(int sort) {
        Counted spans = twoOf(sort, Given.SMALLEST[sort], 8);
        for (int i = 0; i < 25; i++) {
            spans.come(0, i * 31 % 17, 2);
            spans.come(1, 100 + i * 29 % 13, 3);
        }
        var before = Given.all(spans, 1);
        Check.due("merge", spans.merge(0, 1), Given.LIFT + 125);
        Check.holds("the other stays, sort " + sort, before.equals(Given.all(spans, 1)));
        var both = Given.all(spans, 0);
        spans.come(1, 9999, 1);
        spans.clear(1);
        Check.holds("they share nothing, sort " + sort, both.equals(Given.all(spans, 0)));
    }

    private static void brim(int sort) {
        Counted spans = twoOf(sort, Given.SMALLEST[sort], 0);
        int most = sort == Given.RANKS ? 100 : 1000;
        Given.fillToTheBrim(spans, 5, most);
        Check.due("with an empty one", spans.merge(0, 1), Given.LIFT + 10_000_000);
        Check.due("an empty one with it", spans.merge(1, 0), Given.LIFT + 10_000_000);
        spans.clear(1);
        spans.come(1, 6, 1);
        var before = Given.all(spans, 0);
        Check.due("one too many", spans.merge(0, 1), Given.FULL);
        Check.due("one too many there", spans.merge(1, 0), Given.FULL);
        spans.copy(0);
        Check.due("twice the most", spans.merge(0, 2), Given.FULL);
        Check.due("BAD goes before FULL", spans.merge(0, 0), Given.BAD);
        Check.holds("FULL does nothing, sort " + sort, before.equals(Given.all(spans, 0)));
    }

    private static void refusals() {
        Counted spans = twoOf(Given.LEAST, 2, 0);
        Check.due("merge(0, 2)", spans.merge(0, 2), Given.BAD);
        Check.due("merge(2, 0)", spans.merge(2, 0), Given.BAD);
        Check.due("merge(2, 2)", spans.merge(2, 2), Given.BAD);
        for (int wild : Given.WILD) {
            Check.due("merge(0, " + wild + ")", spans.merge(0, wild), Given.BAD);
            Check.due("merge(" + wild + ", 0)", spans.merge(wild, 0), Given.BAD);
            Check.due("merge of " + wild, spans.merge(wild, wild), Given.BAD);
        }
    }
}
