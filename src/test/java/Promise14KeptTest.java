/** Promise 14: kept. */
final class Promise14KeptTest {
    public static void main(String[] args) {
        heavy();
        table();
        tableAtTheBrim();
        filter();
        least();
        ranks();
        ranksAtTheBrim();
        for (int sort = 0; sort < Given.SORTS; sort++) {
            refusals(sort);
        }
        Check.end();
    }

    private static void heavy() {
        Counted spans = Given.oneOf(Given.HEAVY, 20, 0);
        for (int i = 0; i < 20; i++) {
            spans.come(0, i * 7 % 20, 1 + i);
        }
        for (int x = 0; x < 20; x++) {
            // 3 times 7 is 1 modulo 20.
            Check.due("KEY " + x, spans.kept(0, x, 0), x);
            Check.due("NUMBER " + x, spans.kept(0, x, 1), 1 + x * 3 % 20);
        }
        Check.due("KEY 20", spans.kept(0, 20, 0), Given.BAD);
        Check.due("NUMBER 20", spans.kept(0, 20, 1), Given.BAD);
        Check.due("part 2", spans.kept(0, 0, 2), Given.BAD);
    }

    private static void table() {
        Counted spans = Given.oneOf(Given.TABLE, 4, 0);
        spans.come(0, 0, -5);
        // HASHES 1, 5369, 10737, 16105: each is 1 modulo 4.
        int none = Given.LIFT;
        int taken = Given.LIFT - 5;
        Given.keptIs(spans, 0, 0, none, taken, none, none, none, taken, none, none,
                none, taken, none, none, none, taken, none, none);
        Check.due("part 1", spans.kept(0, 1, 1), Given.BAD);
    }

    private static void tableAtTheBrim() {
        Counted spans = Given.oneOf(Given.TABLE, 4, 0);
        spans.sketch(Given.TABLE, 4, 0);
        Given.fillToTheBrim(spans, 0, 1000);
        Check.due("the most", spans.kept(0, 1, 0), 20_000_000);
        spans.clear(0);
        Given.fillToTheBrim(spans, 0, -1000);
        Check.due("the least", spans.kept(0, 1, 0), 0);
    }

    private static void filter() {
        Counted spans = Given.oneOf(Given.FILTER, 16, 0);
        spans.come(0, 0, 1);
        // HASHES 1, 5369, 10737, 16105 are 1, 9, 1, 9 modulo 16.
        Given.keptIs(spans, 0, 0, 0, 1, 0, 0, 0, 0, 0, 0, 0, 1, 0, 0, 0, 0, 0, 0);
        Check.due("part 1", spans.kept(0, 1, 1), Given.BAD);
    }

    private static void least() {
        Counted spans = Given.oneOf(Given.LEAST, 4, 0);
        Given.keptIs(spans, 0, 0);
        Given.comeEach(spans, 0, 9, 5, 7);
        Given.keptIs(spans, 0, 0, 6, 8, 10);
        Check.due("part 1", spans.kept(0, 0, 1), Given.BAD);
    }

    private static void ranks() {
        Counted spans = Given.oneOf(Given.RANKS, 4, 0);
        Given.comeEach(spans, 0, 9, 5, 7, 1, 8, 3, 3);
        Given.bufferIs(spans, 0, 0, 8, 3, 3);
        Given.bufferIs(spans, 0, 1, 1, 7);
        for (int buffer = 2; buffer <= 30; buffer++) {
            Given.bufferIs(spans, 0, buffer);
        }
        Check.due("i -2", spans.kept(0, -2, 0), Given.BAD);
        Check.due("part 31", spans.kept(0, -1, 31), Given.BAD);
        Check.due("part -1", spans.kept(0, -1, -1), Given.BAD);
    }

    private static void ranksAtTheBrim() {
        Counted spans = Given.oneOf(Given.RANKS, 4, 0);
        spans.sketch(Given.RANKS, 4, 0);
        Given.fillToTheBrim(spans, 12, 100);
        long weight = 0;
        for (int buffer = 0; buffer <= 30; buffer++) {
            weight += (long) spans.kept(0, -1, buffer) << buffer;
        }
        Check.due("all WEIGHTS", weight, 10_000_000);
        Check.due("low(0, 11)", spans.low(0, 11), 0);
        Check.due("high(0, 12)", spans.high(0, 12), 10_000_000);
    }

    private static void refusals(int sort) {
        Counted spans = Given.oneOf(sort, 16, 0);
        spans.come(0, 3, 2);
        Check.due("SKETCH 1", spans.kept(1, 0, 0), Given.BAD);
        Check.due("i -2", spans.kept(0, -2, 0), Given.BAD);
        Check.due("i 513", spans.kept(0, 513, 0), Given.BAD);
        if (sort != Given.RANKS) {
            Check.due("i -1", spans.kept(0, -1, 0), Given.BAD);
        }
        for (int wild : Given.WILD) {
            Check.due("SKETCH " + wild, spans.kept(wild, 0, 0), Given.BAD);
            Check.due("part " + wild, spans.kept(0, 0, wild), Given.BAD);
            Check.due("all " + wild, spans.kept(wild, wild, wild), Given.BAD);
            if (wild != -1) {
                Check.due("i " + wild, spans.kept(0, wild, 0), Given.BAD);
            }
        }
    }
}
