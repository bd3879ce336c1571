import com.sun.management.ThreadMXBean;
import java.lang.management.ManagementFactory;

/** All calls of a run live in one room: SKETCHES take their room when they are made, and no other call takes any. */
final class RoomTest {
    private static final ThreadMXBean THREADS = (ThreadMXBean) ManagementFactory.getThreadMXBean();
    private static final int TIMES = 400;
    private static final int COME = 1;
    /** No object of the machine is smaller. */
    private static final int SMALLEST_OBJECT = 16;
    /** 7.3 million elements of four bytes would be 29 million: an object is far below it. */
    private static final int MOST_OF_AN_OBJECT = 100_000;

    public static void main(String[] args) {
        for (int sort = 0; sort < Given.SORTS; sort++) {
            // The first time classes are loaded, which takes room of its own.
            eightOf(sort);
            long before = THREADS.getCurrentThreadAllocatedBytes();
            eightOf(sort);
            long taken = THREADS.getCurrentThreadAllocatedBytes() - before;
            Check.holds("eight of sort " + sort + " take " + taken + " bytes", taken <= MOST_OF_AN_OBJECT);
            for (int kind = 0; kind < 12; kind++) {
                takesNone(sort, kind);
            }
        }
        Check.end();
    }

    private static SketchSpans eightOf(int sort) {
        SketchSpans spans = new SketchSpans();
        for (int s = 0; s < 8; s++) {
            spans.sketch(sort, Given.LARGEST[sort], 0);
        }
        return spans;
    }

    private static void takesNone(int sort, int kind) {
        SketchSpans spans = eightOf(sort);
        callOften(spans, COME);
        callOften(spans, kind);
        long before = THREADS.getCurrentThreadAllocatedBytes();
        callOften(spans, kind);
        long taken = THREADS.getCurrentThreadAllocatedBytes() - before;
        Check.holds("calls of kind " + kind + ", sort " + sort + ", take " + taken + " bytes",
                taken < TIMES * SMALLEST_OBJECT);
    }

    private static void callOften(SketchSpans spans, int kind) {
        for (int time = 0; time < TIMES; time++) {
            int s = time % 8;
            switch (kind) {
                case 0 -> spans.clear(s);
                case COME -> spans.come(s, 7 * time, 100);
                case 2 -> comeAndMerge(spans, s, time);
                case 3 -> spans.hash(time, time % 4, time);
                case 4 -> spans.low(s, time);
                case 5 -> spans.high(s, time);
                case 6 -> spans.has(s, time);
                case 7 -> spans.distinct(s);
                case 8 -> spans.quantile(s, 1 + time);
                case 9 -> spans.told(s, time % 7);
                case 10 -> spans.kept(s, time - 1, 0);
                default -> spans.count();
            }
        }
    }

    private static void comeAndMerge(SketchSpans spans, int s, int time) {
        spans.come(s, 7 * time, 100);
        spans.merge(s, (s + 1) % 8);
        if (time % 5 == 0) {
            spans.clear(s);
        }
    }
}
