import java.util.ArrayList;
import java.util.List;

/** A call that answers BAD or FULL changes nothing: not what is told and kept, and not what later calls answer. */
final class RefusedCallsTest {
    private static final int[] MOST_TIMES = {1000, 1000, 1000, 1000, 100};

    public static void main(String[] args) {
        for (int sort = 0; sort < Given.SORTS; sort++) {
            refusedOnesLeaveNoTrace(sort);
            fullOnesLeaveNoTrace(sort);
        }
        Check.end();
    }

    /** One that all is asked of, one LIKE it, and one that is not. */
    private static Counted withSomething(int sort) {
        Counted spans = Given.oneOf(sort, Given.SMALLEST[sort], 3);
        spans.sketch(sort, Given.SMALLEST[sort], 3);
        spans.sketch(sort, Given.SMALLEST[sort] + 2, 3);
        for (int i = 0; i < 9; i++) {
            spans.come(0, 7 * i, 1 + i % 3);
            spans.come(1, 3 * i, 1);
            spans.come(2, 5 * i, 2);
        }
        return spans;
    }

    private static List<List<Integer>> allOfThree(Counted spans) {
        List<List<Integer>> all = new ArrayList<>();
        for (int s = 0; s < 3; s++) {
            all.add(Given.all(spans, s));
        }
        return all;
    }

    /** What shows a TURN, a HASH or a COUNTER that a refused call left behind. */
    private static void goOn(Counted spans) {
        for (int i = 0; i < 12; i++) {
            spans.come(i % 3, 11 * i, 4);
        }
        spans.merge(0, 1);
    }

    private static void refusedOnesLeaveNoTrace(int sort) {
        Counted spans = withSomething(sort);
        Counted spared = withSomething(sort);
        refused(spans, sort);
        Check.holds("sort " + sort + " stays as it is", allOfThree(spans).equals(allOfThree(spared)));
        spans.due(3, spans.count());
        goOn(spans);
        goOn(spared);
        Check.holds("sort " + sort + " goes on as it would", allOfThree(spans).equals(allOfThree(spared)));
    }

    private static void refused(Counted spans, int sort) {
        bad(spans, spans.sketch(sort, Given.SMALLEST[sort] - 1, 3));
        bad(spans, spans.sketch(sort, Given.LARGEST[sort] + 1, 3));
        bad(spans, spans.sketch(sort, Given.SMALLEST[sort], 1000));
        bad(spans, spans.sketch(5, 16, 3));
        bad(spans, spans.copy(3));
        bad(spans, spans.clear(3));
        bad(spans, spans.clear(-1));
        bad(spans, spans.come(0, 10000, 1));
        bad(spans, spans.come(0, -1, 1));
        bad(spans, spans.come(0, 1, 0));
        bad(spans, spans.come(0, 1, MOST_TIMES[sort] + 1));
        bad(spans, spans.come(0, 1, -1001));
        bad(spans, spans.come(3, 1, 1));
        bad(spans, spans.merge(0, 0));
        bad(spans, spans.merge(0, 2));
        bad(spans, spans.merge(2, 0));
        bad(spans, spans.merge(0, 3));
        bad(spans, spans.merge(3, 0));
        bad(spans, spans.low(0, 10000));
        bad(spans, spans.high(0, 10000));
        bad(spans, spans.has(0, 10000));
        bad(spans, spans.distinct(3));
        bad(spans, spans.quantile(0, 0));
        bad(spans, spans.told(0, 7));
        bad(spans, spans.kept(0, -2, 0));
        bad(spans, spans.hash(1000, 0, 0));
    }

    private static void bad(Counted spans, int answer) {
        spans.due(Given.BAD, answer);
    }

    /** MOVED is one below the most, so 2 are too many and 1 is not. */
    private static void fullOnesLeaveNoTrace(int sort) {
        Counted spans = nearlyFull(sort);
        Counted spared = nearlyFull(sort);
        spans.due(Given.FULL, spans.come(0, 9, 2));
        spans.due(Given.FULL, spans.come(0, 9, MOST_TIMES[sort]));
        spans.due(Given.FULL, spans.merge(0, 1));
        spans.due(Given.FULL, spans.merge(1, 0));
        for (int i = 2; i < 8; i++) {
            spans.due(i, spans.copy(0));
        }
        spans.due(Given.FULL, spans.copy(0));
        spans.due(Given.FULL, spans.sketch(sort, Given.SMALLEST[sort], 3));
        spans.due(8, spans.count());
        for (int s = 0; s < 2; s++) {
            Check.holds("FULL changes nothing, sort " + sort, Given.all(spans, s).equals(Given.all(spared, s)));
        }
        spans.due(Given.LIFT + 10_000_000, spans.come(0, 9, 1));
        spared.come(0, 9, 1);
        Check.holds("nor what comes then, sort " + sort, Given.all(spans, 0).equals(Given.all(spared, 0)));
    }

    private static Counted nearlyFull(int sort) {
        Counted spans = Given.oneOf(sort, Given.SMALLEST[sort], 3);
        spans.sketch(sort, Given.SMALLEST[sort], 3);
        Given.moveTo(spans, 0, 1, 5, MOST_TIMES[sort], 9_999_999);
        spans.come(1, 8, 2);
        return spans;
    }
}
