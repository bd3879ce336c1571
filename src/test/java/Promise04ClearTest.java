/** Promise 4: clear. */
final class Promise04ClearTest {
    public static void main(String[] args) {
        for (int sort = 0; sort < Given.SORTS; sort++) {
            isAsItWasMade(sort);
        }
        totalMayBeBelowZero();
        movedStartsAnew();
        refusals();
        Check.end();
    }

    private static void comeOften(Counted spans, int s) {
        for (int i = 0; i < 30; i++) {
            spans.come(s, i * 7919 % 101, 1 + i % 4);
        }
    }

    private static void isAsItWasMade(int sort) {
        int size = Given.SMALLEST[sort];
        Counted spans = Given.oneOf(sort, size, 3);
        spans.sketch(sort, size, 3);
        spans.sketch(sort, size, 3);
        comeOften(spans, 0);
        comeOften(spans, 1);
        var other = Given.all(spans, 1);
        // 30 calls: 8 with 1, 8 with 2, 7 with 3, 7 with 4.
        Check.due("clear(0)", spans.clear(0), Given.LIFT + 73);
        Check.holds("all of sort " + sort + " is as new", Given.all(spans, 0).equals(Given.all(spans, 2)));
        Check.due("clear(0) again", spans.clear(0), Given.LIFT);
        Check.due("count()", spans.count(), 3);
        Check.holds("others stay", other.equals(Given.all(spans, 1)));
        // What comes later shows what told() and kept() do not, such as a TURN.
        comeOften(spans, 0);
        Check.holds("sort " + sort + " starts anew", other.equals(Given.all(spans, 0)));
    }

    private static void totalMayBeBelowZero() {
        Counted spans = Given.oneOf(Given.TABLE, 4, 0);
        spans.come(0, 1, -1000);
        spans.come(0, 2, 1);
        Check.due("clear(0)", spans.clear(0), Given.LIFT - 999);
    }

    private static void movedStartsAnew() {
        Counted spans = Given.oneOf(Given.FILTER, 16, 0);
        spans.sketch(Given.FILTER, 16, 0);
        Given.fillToTheBrim(spans, 1, 1000);
        Check.due("clear(0)", spans.clear(0), Given.LIFT + 10_000_000);
        Check.due("come(0, 1, 1)", spans.come(0, 1, 1), Given.LIFT + 1);
    }

    private static void refusals() {
        Counted spans = Given.oneOf(Given.TABLE, 4, 0);
        Check.due("clear(1)", spans.clear(1), Given.BAD);
        for (int wild : Given.WILD) {
            Check.due("clear " + wild, spans.clear(wild), Given.BAD);
        }
    }
}
