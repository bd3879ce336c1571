/** Promise 3: copy. */
final class Promise03CopyTest {
    public static void main(String[] args) {
        for (int sort = 0; sort < Given.SORTS; sort++) {
            isTheSame(sort);
            goesItsOwnWay(sort);
        }
        turnsAreCopied();
        refusals();
        Check.end();
    }

    private static Counted withSomething(int sort) {
        Counted spans = Given.oneOf(sort, Given.SMALLEST[sort], 17);
        for (int i = 0; i < 23; i++) {
            spans.come(0, i * 37 % 11, 1 + i % 3);
        }
        return spans;
    }

    private static void isTheSame(int sort) {
        Counted spans = withSomething(sort);
        Check.due("copy(0)", spans.copy(0), 1);
        Check.due("copy(1)", spans.copy(1), 2);
        Check.due("count()", spans.count(), 3);
        Check.holds("a copy is as the first, sort " + sort, Given.all(spans, 0).equals(Given.all(spans, 1)));
        Check.holds("a copy's copy too, sort " + sort, Given.all(spans, 0).equals(Given.all(spans, 2)));
        Check.holds("they are like", spans.merge(2, 0) != Given.BAD);
    }

    private static void goesItsOwnWay(int sort) {
        Counted spans = withSomething(sort);
        spans.copy(0);
        var before = Given.all(spans, 0);
        spans.come(1, 5000, 7);
        Check.holds("the copy moved", !before.equals(Given.all(spans, 1)));
        Check.holds("the first did not, sort " + sort, before.equals(Given.all(spans, 0)));
        spans.clear(1);
        Check.holds("nor by clear, sort " + sort, before.equals(Given.all(spans, 0)));
        spans.copy(0);
        spans.clear(0);
        spans.come(0, 1234, 9);
        Check.holds("nor a copy by its first, sort " + sort, before.equals(Given.all(spans, 2)));
    }

    private static void turnsAreCopied() {
        Counted spans = Given.oneOf(Given.RANKS, 4, 0);
        Given.comeEach(spans, 0, 1, 2, 3, 4);
        spans.copy(0);
        Given.comeEach(spans, 1, 5, 6, 7, 8);
        // BUFFER 1 was 1 3; by TURN 1 came 6 8; by its TURN 0 go 1 6.
        Given.bufferIs(spans, 1, 2, 1, 6);
        Given.bufferIs(spans, 0, 1, 1, 3);
    }

    private static void refusals() {
        Counted spans = Given.oneOf(Given.LEAST, 2, 0);
        Check.due("copy(1)", spans.copy(1), Given.BAD);
        for (int wild : Given.WILD) {
            Check.due("copy " + wild, spans.copy(wild), Given.BAD);
        }
        for (int i = 1; i < 8; i++) {
            Check.due("copy to " + i, spans.copy(0), i);
        }
        Check.due("copy while full", spans.copy(0), Given.FULL);
        Check.due("copy(7) while full", spans.copy(7), Given.FULL);
        Check.due("copy(8) while full", spans.copy(8), Given.BAD);
        Check.due("copy(-1) while full", spans.copy(-1), Given.BAD);
        Check.due("count()", spans.count(), 8);
    }
}
