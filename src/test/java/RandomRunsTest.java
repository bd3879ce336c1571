import java.util.Map;
import java.util.Random;

/** Mixed runs of 512 calls: each answer against the model's, and the bounds against what really came. */
final class RandomRunsTest {
    private static final int CALLS_LEFT_FOR_BOUNDS = 100;
    private static final int RUNS = 2500;

    private final Random random;
    private final Counted spans = new Counted();
    private final Model model = new Model();
    private final int keys;
    private final int onlySort;

    private RandomRunsTest(int run) {
        random = new Random(run);
        keys = run % 3 == 0 ? 12 : run % 3 == 1 ? 200 : 10000;
        onlySort = run % 7 < 5 ? run % 7 : -1;
    }

    public static void main(String[] args) {
        for (int run = 0; run < RUNS; run++) {
            RandomRunsTest test = new RandomRunsTest(run);
            while (test.spans.callsLeft() > CALLS_LEFT_FOR_BOUNDS) {
                test.oneCall();
            }
            test.bounds("run " + run + ": ");
        }
        Check.end();
    }

    /** Now and then a number that is at an edge or far outside. */
    private int odd(int usual) {
        int[] odd = {-1, 0, 1, 4, 8, 31, 999, 1000, 1001, 9999, 10000, Integer.MIN_VALUE, Integer.MAX_VALUE};
        return random.nextInt(40) == 0 ? odd[random.nextInt(odd.length)] : usual;
    }

    private int someSketch() {
        return odd(random.nextInt(Math.max(1, model.count())));
    }

    private int someKey() {
        return odd(random.nextInt(keys));
    }

    private void oneCall() {
        int s = someSketch();
        int x = someKey();
        int kind = random.nextInt(100);
        if (kind < 4) {
            newSketch();
        } else if (kind < 5) {
            spans.due(model.copy(s), spans.copy(s));
        } else if (kind < 6) {
            spans.due(model.clear(s), spans.clear(s));
        } else if (kind < 58) {
            come(s, x);
        } else if (kind < 68) {
            int b = someSketch();
            spans.due(model.merge(s, b), spans.merge(s, b));
        } else {
            look(s, x);
        }
    }

    private void newSketch() {
        int sort = odd(onlySort >= 0 ? onlySort : random.nextInt(5));
        int[] sizes = {1, 2, 3, 4, 6, 16, 20, 32, 64, 512};
        int size = odd(sizes[random.nextInt(sizes.length)]);
        int seed = odd(random.nextInt(2));
        spans.due(model.sketch(sort, size, seed), spans.sketch(sort, size, seed));
    }

    private void come(int s, int x) {
        int most = random.nextInt(3) == 0 ? 1000 : random.nextBoolean() ? 100 : 5;
        int n = odd(random.nextInt(most) + 1);
        n = random.nextInt(6) == 0 ? -n : n;
        spans.due(model.come(s, x, n), spans.come(s, x, n));
    }

    private void look(int s, int x) {
        int part = odd(random.nextInt(4));
        switch (random.nextInt(9)) {
            case 0 -> spans.due(model.low(s, x), spans.low(s, x));
            case 1 -> spans.due(model.high(s, x), spans.high(s, x));
            case 2 -> spans.due(model.has(s, x), spans.has(s, x));
            case 3 -> spans.due(model.distinct(s), spans.distinct(s));
            case 4 -> quantile(s);
            case 5 -> told(s);
            case 6 -> kept(s, part);
            case 7 -> spans.due(model.hash(s, part, x), spans.hash(s, part, x));
            default -> spans.due(model.count(), spans.count());
        }
    }

    private void quantile(int s) {
        int total = Math.max(1, model.told(s, 3) - 10_000_000 + 1);
        int q = odd(random.nextInt(total) + 1);
        spans.due(model.quantile(s, q), spans.quantile(s, q));
    }

    private void told(int s) {
        int what = random.nextInt(9) - 1;
        spans.due(model.told(s, what), spans.told(s, what));
    }

    private void kept(int s, int part) {
        int i = random.nextInt(20) - 1;
        spans.due(model.kept(s, i, part), spans.kept(s, i, part));
    }

    private void bounds(String where) {
        for (int s = 0; s < model.count(); s++) {
            Model.One one = model.ones.get(s);
            boolean neverBelow = one.came.values().stream().allMatch(n -> n >= 0);
            int times = Math.max(1, CALLS_LEFT_FOR_BOUNDS / 2 / model.count() - 1);
            // The KEYS to be asked for lie apart, so that those that come last are not left out.
            int apart = 1 + one.came.size() / times;
            int at = 0;
            long notAbove = 0;
            for (Map.Entry<Integer, Long> entry : one.came.entrySet()) {
                notAbove += entry.getValue();
                long really = one.sort == Given.RANKS ? notAbove : entry.getValue();
                if (at++ % apart == 0) {
                    bounds(where, s, one.sort, entry.getKey(), really, neverBelow);
                }
            }
            if (one.sort == Given.LEAST && one.came.size() < one.size) {
                Check.due(where + "distinct(" + s + ")", spans.distinct(s), one.came.size());
            }
        }
    }

    private void bounds(String where, int s, int sort, int x, long really, boolean neverBelow) {
        if (sort == Given.HEAVY || sort == Given.RANKS) {
            Check.holds(where + "low(" + s + ", " + x + ") is a bound", spans.low(s, x) <= really);
        }
        if (sort == Given.HEAVY || sort == Given.RANKS || sort == Given.TABLE && neverBelow) {
            Check.holds(where + "high(" + s + ", " + x + ") is a bound", spans.high(s, x) >= really);
        }
        if (sort == Given.FILTER) {
            Check.due(where + "has(" + s + ", " + x + "), which came", spans.has(s, x), 1);
        }
    }
}
