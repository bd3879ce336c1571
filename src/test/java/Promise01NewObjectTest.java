/** Promise 1: a new object has no SKETCHES. */
final class Promise01NewObjectTest {
    public static void main(String[] args) {
        hasNoSketches();
        sharesNothing();
        Check.end();
    }

    private static void hasNoSketches() {
        Counted spans = new Counted();
        Check.due("count()", spans.count(), 0);
        for (int s = -1; s <= 8; s++) {
            Check.due("copy " + s, spans.copy(s), Given.BAD);
            Check.due("clear " + s, spans.clear(s), Given.BAD);
            Check.due("come " + s, spans.come(s, 0, 1), Given.BAD);
            Check.due("merge " + s, spans.merge(s, s + 1), Given.BAD);
            Check.due("low " + s, spans.low(s, 0), Given.BAD);
            Check.due("high " + s, spans.high(s, 0), Given.BAD);
            Check.due("has " + s, spans.has(s, 0), Given.BAD);
            Check.due("distinct " + s, spans.distinct(s), Given.BAD);
            Check.due("quantile " + s, spans.quantile(s, 1), Given.BAD);
            Check.due("told " + s, spans.told(s, 0), Given.BAD);
            Check.due("kept " + s, spans.kept(s, 0, 0), Given.BAD);
        }
        Check.due("count() still", spans.count(), 0);
    }

    private static void sharesNothing() {
        Counted first = Given.oneOf(Given.HEAVY, 3, 0);
        first.come(0, 7, 5);
        Counted second = new Counted();
        Check.due("count() of another object", second.count(), 0);
        second.sketch(Given.HEAVY, 3, 0);
        Check.due("low() of another object", second.low(0, 7), 0);
        Check.due("low() of the first", first.low(0, 7), 5);
    }
}
