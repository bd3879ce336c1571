import java.util.ArrayList;
import java.util.List;

/** States of objects that several tests start from, and looks at a whole SKETCH. */
final class Given {
    static final int BAD = SketchSpans.BAD;
    static final int FULL = SketchSpans.FULL;
    static final int LIFT = 10_000_000;
    static final int HEAVY = 0, TABLE = 1, FILTER = 2, LEAST = 3, RANKS = 4;
    static final int SORTS = 5;
    static final int[] SMALLEST = {1, 4, 16, 2, 4};
    static final int[] LARGEST = {20, 64, 512, 32, 32};
    /** No number of a SKETCH, no KEY, no SORT, no SIZE, no SEED. */
    static final int[] WILD = {-1, Integer.MIN_VALUE, Integer.MAX_VALUE};

    private Given() {
    }

    static Counted oneOf(int sort, int size, int seed) {
        Counted spans = new Counted();
        Check.due("sketch(" + sort + ", " + size + ", " + seed + ")", spans.sketch(sort, size, seed), 0);
        return spans;
    }

    /** Lets each KEY come once. */
    static void comeEach(Counted spans, int s, int... keys) {
        for (int key : keys) {
            Check.holds("come(" + s + ", " + key + ", 1) is taken", spans.come(s, key, 1) >= 0);
        }
    }

    /** Lets x come to SKETCH 0, to which nothing came, until MOVED is 10,000,000; SKETCH 1 must be LIKE it. */
    static void fillToTheBrim(Counted spans, int x, int n) {
        moveTo(spans, 0, 1, x, n, 10_000_000 - Math.abs(n));
        // The last one comes alone: just to the brim it must be taken.
        Check.due("come to the brim", spans.come(0, x, n), n < 0 ? 0 : LIFT + 10_000_000);
        Check.due("MOVED at the brim", spans.told(0, 4), 10_000_000);
    }

    /**
     * Lets x come to s, n times and n times again, until MOVED is so much, the last time less often if need be.
     * Nothing came to s before. The helper is LIKE s and is cleared: both are MADE ONE to double s in few calls.
     */
    static void moveTo(Counted spans, int s, int helper, int x, int n, int moved) {
        int times = moved / Math.abs(n);
        for (int bit = Integer.highestOneBit(times); bit > 0; bit >>= 1) {
            spans.clear(helper);
            spans.merge(helper, s);
            spans.merge(s, helper);
            if ((times & bit) != 0) {
                spans.come(s, x, n);
            }
        }
        if (moved % n != 0) {
            spans.come(s, x, n < 0 ? -(moved % n) : moved % n);
        }
        spans.clear(helper);
        Check.due("MOVED of " + s, spans.told(s, 4), moved);
    }

    /** All that told() and kept() say of a SKETCH, in as few calls as will do. */
    static List<Integer> all(Counted spans, int s) {
        List<Integer> all = new ArrayList<>();
        for (int what = 0; what <= 6; what++) {
            all.add(spans.told(s, what));
        }
        int sort = all.get(0);
        int size = all.get(1);
        int howMany = all.get(6);
        if (sort == RANKS) {
            addBuffers(all, spans, s, howMany);
        } else {
            int places = sort == TABLE ? 4 * size : sort == FILTER ? size : howMany;
            addKept(all, spans, s, places, 0);
            addKept(all, spans, s, sort == HEAVY ? places : 0, 1);
        }
        return all;
    }

    private static void addKept(List<Integer> all, Counted spans, int s, int places, int part) {
        for (int i = 0; i < places; i++) {
            all.add(spans.kept(s, i, part));
        }
    }

    private static void addBuffers(List<Integer> all, Counted spans, int s, int howMany) {
        int seen = 0;
        for (int buffer = 0; buffer <= 30 && seen < howMany; buffer++) {
            int length = spans.kept(s, -1, buffer);
            all.add(length);
            addKept(all, spans, s, length, buffer);
            seen += length;
        }
    }

    /** HASH j of a KEY as the document says it, without the program. */
    static int hash(int seed, int j, int x) {
        long factor = 1 + 31L * seed + 977L * j;
        return (int) ((factor * (x + 1) + 4391L * j + 7L * seed) % 65537);
    }

    static void keptIs(Counted spans, int s, int part, int... want) {
        for (int i = 0; i < want.length; i++) {
            Check.due("kept(" + s + ", " + i + ", " + part + ")", spans.kept(s, i, part), want[i]);
        }
        Check.due("kept(" + s + ", " + want.length + ", " + part + ")", spans.kept(s, want.length, part), BAD);
    }

    /** The KEYS of a BUFFER, and that it says how many they are. */
    static void bufferIs(Counted spans, int s, int buffer, int... want) {
        Check.due("kept(" + s + ", -1, " + buffer + ")", spans.kept(s, -1, buffer), want.length);
        keptIs(spans, s, buffer, want);
    }
}
