import java.math.BigInteger;
import java.util.HashSet;
import java.util.Set;

/** Promise 7: hash. */
final class Promise07HashTest {
    public static void main(String[] args) {
        byHand(new Counted());
        byFormula();
        noTwoAreTheSame();
        refusals(new Counted());
        Check.end();
    }

    private static void byHand(Counted spans) {
        Check.due("hash(0, 0, 0)", spans.hash(0, 0, 0), 1);
        Check.due("hash(0, 0, 9999)", spans.hash(0, 0, 9999), 10000);
        Check.due("hash(0, 1, 0)", spans.hash(0, 1, 0), 978 + 4391);
        Check.due("hash(1, 0, 0)", spans.hash(1, 0, 0), 32 + 7);
        Check.due("hash(1, 0, 4095)", spans.hash(1, 0, 4095), 32 * 4096 + 7 - 2 * 65537);
        // 33,901 times 10,000 and 13,173 and 6,993.
        Check.due("hash(999, 3, 9999)", spans.hash(999, 3, 9999), 339_030_166 % 65_537);
    }

    private static void byFormula() {
        for (int seed = 0; seed < 1000; seed += 37) {
            for (int j = 0; j < 4; j++) {
                Counted spans = new Counted();
                for (int x = 0; x < 10000; x += 101) {
                    BigInteger factor = BigInteger.valueOf(1 + 31L * seed + 977L * j);
                    BigInteger sum = factor.multiply(BigInteger.valueOf(x + 1L))
                            .add(BigInteger.valueOf(4391L * j)).add(BigInteger.valueOf(7L * seed));
                    int want = sum.mod(BigInteger.valueOf(65537)).intValue();
                    spans.due(want, spans.hash(seed, j, x));
                }
            }
        }
    }

    private static void noTwoAreTheSame() {
        for (int j = 0; j < 4; j++) {
            Set<Integer> seen = new HashSet<>();
            for (int first = 0; first < 10000; first += 500) {
                Counted spans = new Counted();
                for (int x = first; x < first + 500; x++) {
                    seen.add(spans.hash(999, j, x));
                }
            }
            Check.due("different HASHES " + j, seen.size(), 10000);
        }
    }

    private static void refusals(Counted spans) {
        Check.due("j 4", spans.hash(0, 4, 0), Given.BAD);
        Check.due("seed 1000", spans.hash(1000, 0, 0), Given.BAD);
        Check.due("key 10000", spans.hash(0, 0, 10000), Given.BAD);
        for (int wild : Given.WILD) {
            Check.due("j " + wild, spans.hash(0, wild, 0), Given.BAD);
            Check.due("seed " + wild, spans.hash(wild, 0, 0), Given.BAD);
            Check.due("key " + wild, spans.hash(0, 0, wild), Given.BAD);
        }
    }
}
