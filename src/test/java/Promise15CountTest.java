/** Promise 15: count. */
final class Promise15CountTest {
    public static void main(String[] args) {
        Counted spans = new Counted();
        Check.due("none", spans.count(), 0);
        spans.sketch(Given.HEAVY, 3, 0);
        Check.due("one", spans.count(), 1);
        spans.sketch(Given.HEAVY, 0, 0);
        Check.due("a refused one is none", spans.count(), 1);
        spans.copy(0);
        Check.due("two", spans.count(), 2);
        spans.copy(2);
        Check.due("a refused copy is none", spans.count(), 2);
        spans.come(0, 1, 1);
        spans.merge(0, 1);
        spans.clear(0);
        Check.due("still two", spans.count(), 2);
        for (int i = 2; i < 12; i++) {
            spans.sketch(Given.TABLE, 4, 0);
            Check.due("count()", spans.count(), Math.min(8, i + 1));
        }
        spans.copy(0);
        Check.due("eight", spans.count(), 8);
        Check.end();
    }
}
