import java.util.Random;

/**
 * LANGUAGE.md, rules 7 and 13: no call throws or fails to end, for any arguments in any state, and the same calls
 * give the same answers. Here objects live on beyond the 512 calls whose answers are promised.
 */
final class AnyArgumentsTest {
    private static final int CALLS = 4000;
    private static final int RUNS = 300;
    private static final int HIGH = 7;
    private static final int[] WILD = {
        Integer.MIN_VALUE, Integer.MIN_VALUE + 1, -10_000_001, -65_537, -1001, -1000, -33, -3, -2, -1, 5, 8, 31, 32, 33,
        64, 65, 512, 513, 999, 1000, 1001, 9999, 10_000, 65_537, 10_000_001, 1 << 30, Integer.MAX_VALUE - 1,
        Integer.MAX_VALUE};

    private final Random random;
    private final SketchSpans one = new SketchSpans();
    private final SketchSpans same = new SketchSpans();

    private AnyArgumentsTest(int run) {
        random = new Random(run);
    }

    public static void main(String[] args) {
        for (int run = 0; run < RUNS; run++) {
            AnyArgumentsTest test = new AnyArgumentsTest(run);
            for (int call = 1; call <= CALLS; call++) {
                test.oneCall("run " + run + ", call " + call);
            }
        }
        Check.end();
    }

    private void oneCall(String where) {
        // Most calls are come() and merge(), which bring the SKETCHES where they were not yet.
        int kind = random.nextInt(3) == 0 ? random.nextInt(14) : 3 + random.nextInt(2);
        int a = some(kind == 0 ? 5 : 8);
        int b = some(kind == 3 ? 10_000 : 70);
        int c = some(kind == 3 ? 1000 : 20);
        int answer = ask(one, kind, a, b, c);
        Check.due(where + ", of one that is the same", ask(same, kind, a, b, c), answer);
        boolean mayBeBelow = kind == HIGH && one.told(a, 0) == Given.TABLE;
        same.told(a, 0);
        Check.holds(where + " of kind " + kind + " answered " + answer,
                answer >= 0 || answer == Given.BAD || answer == Given.FULL || mayBeBelow);
    }

    private int some(int usual) {
        int kind = random.nextInt(16);
        return kind == 0 ? WILD[random.nextInt(WILD.length)] : kind == 1 ? random.nextInt() : random.nextInt(usual);
    }

    private static int ask(SketchSpans spans, int kind, int a, int b, int c) {
        return switch (kind) {
            case 0 -> spans.sketch(a, b, c);
            case 1 -> spans.copy(a);
            case 2 -> spans.clear(a);
            case 3 -> spans.come(a, b, c);
            case 4 -> spans.merge(a, b);
            case 5 -> spans.hash(a, b, c);
            case 6 -> spans.low(a, b);
            case HIGH -> spans.high(a, b);
            case 8 -> spans.has(a, b);
            case 9 -> spans.distinct(a);
            case 10 -> spans.quantile(a, b);
            case 11 -> spans.told(a, b);
            case 12 -> spans.kept(a, b, c);
            default -> spans.count();
        };
    }
}
