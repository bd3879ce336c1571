import java.util.ArrayList;
import java.util.List;

/** States of objects that several tests start from, and looks at a whole SKETCH. */
final class Given {
    static final int BAD = SketchSpans.BAD;
    static final int FULL = SketchSpans.FULL;
    static final int LIFT = 10_000_000;
    static final int HEAVY = 0, TABLE = 1, FILTER = 2, LEAST = 3, RANKS = 4;
    static final int SORTS = 5;
    static final int[] SMALLEST = {1, 4, 16, 2, 4};
    static final int[] LARGEST = {20, 64, 512, 32, 32};
    /** No number of a SKETCH, no KEY, no SORT, no SIZE, no SEED. */
    static final int[] WILD = {-1, Integer.MIN_VALUE, Integer.MAX_VALUE};

    private Given() {
    }

    static SketchSpans oneOf(int sort, int size, int seed) {
        SketchSpans spans = new SketchSpans();
        Check.due("sketch(" + sort + ", " + size + ", " + seed + ")", spans.sketch(sort, size, seed), 0);
        return spans;
    }

    /** Lets each KEY come once. */
    static void comeEach(SketchSpans spans, int s, int... keys) {
        for (int key : keys) {
            Check.holds("come(" + s + ", " + key + ", 1) is taken", spans.come(s, key, 1) >= 0);
        }
    }

    /** Lets x come to SKETCH 0, to which nothing came, until MOVED is 10,000,000; SKETCH 1 must be LIKE it. */
    static void fillToTheBrim(SketchSpans spans, int x, int n) {
        int times = 10_000_000 / Math.abs(n) - 1;
        for (int bit = Integer.highestOneBit(times); bit > 0; bit >>= 1) {
            spans.clear(1);
            spans.merge(1, 0);
            spans.merge(0, 1);
            if ((times & bit) != 0) {
                spans.come(0, x, n);
            }
        }
        spans.clear(1);
        // The last one comes alone: just to the brim it must be taken.
        Check.due("come to the brim", spans.come(0, x, n), n < 0 ? 0 : LIFT + 10_000_000);
        Check.due("MOVED at the brim", spans.told(0, 4), 10_000_000);
    }

    /** All that told() and kept() say of a SKETCH. */
    static List<Integer> all(SketchSpans spans, int s) {
        List<Integer> all = new ArrayList<>();
        for (int what = 0; what <= 6; what++) {
            all.add(spans.told(s, what));
        }
        for (int part = 0; part <= 30; part++) {
            for (int i = -1; i < 512; i++) {
                all.add(spans.kept(s, i, part));
            }
        }
        return all;
    }

    static void keptIs(SketchSpans spans, int s, int part, int... want) {
        for (int i = 0; i < want.length; i++) {
            Check.due("kept(" + s + ", " + i + ", " + part + ")", spans.kept(s, i, part), want[i]);
        }
        Check.due("kept(" + s + ", " + want.length + ", " + part + ")", spans.kept(s, want.length, part), BAD);
    }

    /** The KEYS of a BUFFER, and that it says how many they are. */
    static void bufferIs(SketchSpans spans, int s, int buffer, int... want) {
        Check.due("kept(" + s + ", -1, " + buffer + ")", spans.kept(s, -1, buffer), want.length);
        keptIs(spans, s, buffer, want);
    }
}
