import java.util.Arrays;

/**
 * A new object whose calls are counted and named: the document promises the answers of 512 calls alone,
 * so a test that makes more would lean on what is free.
 */
final class Counted {
    private static final int PROMISED = 512;

    private final SketchSpans spans = new SketchSpans();
    private int calls = 0;
    private String last = "new SketchSpans()";

    int sketch(int sort, int size, int seed) {
        return note(spans.sketch(sort, size, seed), "sketch", sort, size, seed);
    }

    int copy(int s) {
        return note(spans.copy(s), "copy", s);
    }

    int clear(int s) {
        return note(spans.clear(s), "clear", s);
    }

    int come(int s, int x, int n) {
        return note(spans.come(s, x, n), "come", s, x, n);
    }

    int merge(int a, int b) {
        return note(spans.merge(a, b), "merge", a, b);
    }

    int hash(int seed, int j, int x) {
        return note(spans.hash(seed, j, x), "hash", seed, j, x);
    }

    int low(int s, int x) {
        return note(spans.low(s, x), "low", s, x);
    }

    int high(int s, int x) {
        return note(spans.high(s, x), "high", s, x);
    }

    int has(int s, int x) {
        return note(spans.has(s, x), "has", s, x);
    }

    int distinct(int s) {
        return note(spans.distinct(s), "distinct", s);
    }

    int quantile(int s, int q) {
        return note(spans.quantile(s, q), "quantile", s, q);
    }

    int told(int s, int what) {
        return note(spans.told(s, what), "told", s, what);
    }

    int kept(int s, int i, int part) {
        return note(spans.kept(s, i, part), "kept", s, i, part);
    }

    int count() {
        return note(spans.count(), "count");
    }

    int callsLeft() {
        return PROMISED - calls;
    }

    /** Says what is due of the call just made, which is named if it answered something else. */
    void due(int want, int got) {
        Check.due("call " + calls + ", " + last + ",", got, want);
    }

    private int note(int answer, String name, int... arguments) {
        calls++;
        last = name + Arrays.toString(arguments).replace('[', '(').replace(']', ')');
        if (calls == PROMISED + 1) {
            Check.holds("a test keeps to " + PROMISED + " calls of an object, but for " + last, false);
        }
        return answer;
    }
}
