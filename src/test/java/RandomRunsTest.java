import java.util.Map;
import java.util.Random;

/** Mixed runs of 512 calls: each answer against the model's, and the bounds against what really came. */
final class RandomRunsTest {
    private static final int CALLS = 512;
    private static final int RUNS = 600;

    private final Random random;
    private final SketchSpans spans = new SketchSpans();
    private final Model model = new Model();
    private final int keys;
    private final int onlySort;

    private RandomRunsTest(int run) {
        random = new Random(run);
        keys = run % 3 == 0 ? 12 : run % 3 == 1 ? 200 : 10000;
        onlySort = run % 7 < 5 ? run % 7 : -1;
    }

    public static void main(String[] args) {
        for (int run = 0; run < RUNS; run++) {
            RandomRunsTest test = new RandomRunsTest(run);
            for (int call = 0; call < CALLS; call++) {
                test.oneCall("run " + run + ", call " + call + ": ");
            }
            test.bounds("run " + run + ": ");
        }
        Check.end();
    }

    /** Now and then a number that is at an edge or far outside. */
    private int odd(int usual) {
        int[] odd = {-1, 0, 1, 4, 8, 31, 999, 1000, 1001, 9999, 10000, Integer.MIN_VALUE, Integer.MAX_VALUE};
        return random.nextInt(40) == 0 ? odd[random.nextInt(odd.length)] : usual;
    }

    private int someSketch() {
        return odd(random.nextInt(Math.max(1, model.count())));
    }

    private int someKey() {
        return odd(random.nextInt(keys));
    }

    private void oneCall(String where) {
        int s = someSketch();
        int x = someKey();
        int kind = random.nextInt(100);
        if (kind < 6) {
            newSketch(where);
        } else if (kind < 8) {
            Check.due(where + "copy(" + s + ")", spans.copy(s), model.copy(s));
        } else if (kind < 9) {
            Check.due(where + "clear(" + s + ")", spans.clear(s), model.clear(s));
        } else if (kind < 60) {
            come(where, s, x);
        } else if (kind < 72) {
            int b = someSketch();
            Check.due(where + "merge(" + s + ", " + b + ")", spans.merge(s, b), model.merge(s, b));
        } else {
            look(where, s, x);
        }
    }

    private void newSketch(String where) {
        int sort = odd(onlySort >= 0 ? onlySort : random.nextInt(5));
        int[] sizes = {1, 2, 3, 4, 6, 16, 20, 32, 64, 512};
        int size = odd(sizes[random.nextInt(sizes.length)]);
        int seed = odd(random.nextInt(2));
        Check.due(where + "sketch(" + sort + ", " + size + ", " + seed + ")",
                spans.sketch(sort, size, seed), model.sketch(sort, size, seed));
    }

    private void come(String where, int s, int x) {
        int most = random.nextInt(3) == 0 ? 1000 : random.nextBoolean() ? 100 : 5;
        int n = odd(random.nextInt(most) + 1);
        n = random.nextInt(6) == 0 ? -n : n;
        Check.due(where + "come(" + s + ", " + x + ", " + n + ")", spans.come(s, x, n), model.come(s, x, n));
    }

    private void look(String where, int s, int x) {
        int i = random.nextInt(20) - 1;
        int part = odd(random.nextInt(4));
        int what = random.nextInt(9) - 1;
        int total = Math.max(1, model.told(s, 3) - 10_000_000 + 1);
        int q = odd(random.nextInt(total) + 1);
        Check.due(where + "low(" + s + ", " + x + ")", spans.low(s, x), model.low(s, x));
        Check.due(where + "high(" + s + ", " + x + ")", spans.high(s, x), model.high(s, x));
        Check.due(where + "has(" + s + ", " + x + ")", spans.has(s, x), model.has(s, x));
        Check.due(where + "distinct(" + s + ")", spans.distinct(s), model.distinct(s));
        Check.due(where + "quantile(" + s + ", " + q + ")", spans.quantile(s, q), model.quantile(s, q));
        Check.due(where + "told(" + s + ", " + what + ")", spans.told(s, what), model.told(s, what));
        Check.due(where + "kept(" + s + ", " + i + ", " + part + ")", spans.kept(s, i, part), model.kept(s, i, part));
        Check.due(where + "hash(" + s + ", " + part + ", " + x + ")", spans.hash(s, part, x), model.hash(s, part, x));
        Check.due(where + "count()", spans.count(), model.count());
    }

    private void bounds(String where) {
        for (int s = 0; s < model.count(); s++) {
            Model.One one = model.ones.get(s);
            boolean neverBelow = one.came.values().stream().allMatch(n -> n >= 0);
            long notAbove = 0;
            for (Map.Entry<Integer, Long> entry : one.came.entrySet()) {
                int x = entry.getKey();
                notAbove += entry.getValue();
                long really = one.sort == 4 ? notAbove : entry.getValue();
                if (one.sort == 0 || one.sort == 4) {
                    Check.holds(where + "low(" + s + ", " + x + ") is a bound", spans.low(s, x) <= really);
                }
                if (one.sort == 0 || one.sort == 4 || one.sort == 1 && neverBelow) {
                    Check.holds(where + "high(" + s + ", " + x + ") is a bound", spans.high(s, x) >= really);
                }
                if (one.sort == 2) {
                    Check.due(where + "has(" + s + ", " + x + "), which came", spans.has(s, x), 1);
                }
            }
            if (one.sort == 3 && one.came.size() < one.size) {
                Check.due(where + "distinct(" + s + ")", spans.distinct(s), one.came.size());
            }
        }
    }
}
