import java.util.ArrayList;
import java.util.Collections;
import java.util.List;
import java.util.Map;
import java.util.TreeMap;
import java.util.TreeSet;

/** The document once more, in its plainest form: TABLE, FILTER and LEAST are worked out from all that came. */
final class Model {
    private static final long MOST = 10_000_000;
    private static final int[] SMALLEST = {1, 4, 16, 2, 4};
    private static final int[] LARGEST = {20, 64, 512, 32, 32};
    private static final int[] MOST_TIMES = {1000, 1000, 1000, 1000, 100};

    static final class One {
        int sort, size, seed;
        long total, moved;
        /** How often each KEY came in all. */
        TreeMap<Integer, Long> came = new TreeMap<>();
        TreeMap<Integer, Long> counters = new TreeMap<>();
        /** LOST or ERROR. */
        long lack;
        List<List<Integer>> buffers = new ArrayList<>();
        List<Boolean> odd = new ArrayList<>();

        One(int sort, int size, int seed) {
            this.sort = sort;
            this.size = size;
            this.seed = seed;
            for (int i = 0; i < 40; i++) {
                buffers.add(new ArrayList<>());
                odd.add(true);
            }
        }

        One twin() {
            One twin = new One(sort, size, seed);
            twin.total = total;
            twin.moved = moved;
            twin.came.putAll(came);
            twin.counters.putAll(counters);
            twin.lack = lack;
            for (int i = 0; i < 40; i++) {
                twin.buffers.get(i).addAll(buffers.get(i));
                twin.odd.set(i, odd.get(i));
            }
            return twin;
        }
    }

    final List<One> ones = new ArrayList<>();

    private boolean no(int s) {
        return s < 0 || s >= ones.size();
    }

    private static boolean noKey(int x) {
        return x < 0 || x > 9999;
    }

    int sketch(int sort, int size, int seed) {
        if (sort < 0 || sort > 4 || seed < 0 || seed > 999) {
            return -1;
        }
        if (size < SMALLEST[sort] || size > LARGEST[sort] || sort == 4 && size % 2 == 1) {
            return -1;
        }
        if (ones.size() == 8) {
            return -3;
        }
        ones.add(new One(sort, size, seed));
        return ones.size() - 1;
    }

    int copy(int s) {
        if (no(s)) {
            return -1;
        }
        if (ones.size() == 8) {
            return -3;
        }
        ones.add(ones.get(s).twin());
        return ones.size() - 1;
    }

    int clear(int s) {
        if (no(s)) {
            return -1;
        }
        One old = ones.get(s);
        ones.set(s, new One(old.sort, old.size, old.seed));
        return (int) (old.total + MOST);
    }

    int come(int s, int x, int n) {
        if (no(s) || noKey(x) || n == 0) {
            return -1;
        }
        One one = ones.get(s);
        if (n > MOST_TIMES[one.sort] || n < (one.sort == 1 ? -1000 : 1)) {
            return -1;
        }
        if (one.moved + Math.abs(n) > MOST) {
            return -3;
        }
        one.moved += Math.abs(n);
        one.total += n;
        one.came.merge(x, (long) n, Long::sum);
        if (one.sort == 0) {
            comeHeavy(one, x, n);
        } else if (one.sort == 4) {
            for (int i = 0; i < n; i++) {
                comeRank(one, 0, x);
            }
        }
        return (int) (one.total + MOST);
    }

    private static void comeHeavy(One one, int x, long times) {
        long n = times;
        while (n != 0) {
            if (one.counters.containsKey(x) || one.counters.size() < one.size) {
                one.counters.merge(x, n, Long::sum);
                n = 0;
            } else {
                long d = Math.min(n, Collections.min(one.counters.values()));
                n -= d;
                lessen(one, d);
            }
        }
    }

    private static void lessen(One one, long d) {
        one.counters.replaceAll((key, number) -> number - d);
        one.counters.values().removeIf(number -> number <= 0);
        one.lack += d;
    }

    private static void comeRank(One one, int i, int x) {
        List<Integer> buffer = one.buffers.get(i);
        buffer.add(x);
        if (buffer.size() == one.size) {
            List<Integer> sorted = new ArrayList<>(buffer);
            Collections.sort(sorted);
            buffer.clear();
            boolean odd = one.odd.get(i);
            for (int place = 1; place <= sorted.size(); place++) {
                if (odd == (place % 2 == 1)) {
                    comeRank(one, i + 1, sorted.get(place - 1));
                }
            }
            one.odd.set(i, !odd);
            one.lack += 1L << i;
        }
    }

    int merge(int a, int b) {
        if (no(a) || no(b) || a == b) {
            return -1;
        }
        One one = ones.get(a);
        One other = ones.get(b);
        if (one.sort != other.sort || one.size != other.size || one.seed != other.seed) {
            return -1;
        }
        if (one.moved + other.moved > MOST) {
            return -3;
        }
        one.moved += other.moved;
        one.total += other.total;
        one.lack += other.lack;
        other.came.forEach((key, n) -> one.came.merge(key, n, Long::sum));
        other.counters.forEach((key, n) -> one.counters.merge(key, n, Long::sum));
        if (one.counters.size() > one.size) {
            List<Long> numbers = new ArrayList<>(one.counters.values());
            numbers.sort(Collections.reverseOrder());
            lessen(one, numbers.get(one.size));
        }
        for (int i = 0; i < 40; i++) {
            for (int x : other.buffers.get(i)) {
                comeRank(one, i, x);
            }
        }
        return (int) (one.total + MOST);
    }

    int hash(int seed, int j, int x) {
        if (seed < 0 || seed > 999 || j < 0 || j > 3 || noKey(x)) {
            return -1;
        }
        return (int) (((1L + 31L * seed + 977L * j) * (x + 1L) + 4391L * j + 7L * seed) % 65537L);
    }

    private static long weights(One one, int x) {
        long sum = 0;
        for (int i = 0; i < 40; i++) {
            for (int key : one.buffers.get(i)) {
                sum += key <= x ? 1L << i : 0;
            }
        }
        return sum;
    }

    private long cell(One one, int j, int place) {
        long sum = 0;
        for (Map.Entry<Integer, Long> entry : one.came.entrySet()) {
            sum += hash(one.seed, j, entry.getKey()) % one.size == place ? entry.getValue() : 0;
        }
        return sum;
    }

    private int bit(One one, int place) {
        for (int x : one.came.keySet()) {
            for (int j = 0; j < 4; j++) {
                if (hash(one.seed, j, x) % one.size == place) {
                    return 1;
                }
            }
        }
        return 0;
    }

    private List<Integer> hashes(One one) {
        TreeSet<Integer> all = new TreeSet<>();
        for (int x : one.came.keySet()) {
            all.add(hash(one.seed, 0, x));
        }
        List<Integer> list = new ArrayList<>(all);
        return list.subList(0, Math.min(one.size, list.size()));
    }

    int low(int s, int x) {
        if (no(s) || noKey(x)) {
            return -1;
        }
        One one = ones.get(s);
        return switch (one.sort) {
            case 0 -> (int) (long) one.counters.getOrDefault(x, 0L);
            case 4 -> (int) Math.max(0, weights(one, x) - one.lack);
            default -> -1;
        };
    }

    int high(int s, int x) {
        if (no(s) || noKey(x)) {
            return -1;
        }
        One one = ones.get(s);
        switch (one.sort) {
            case 0:
                return (int) (one.counters.getOrDefault(x, 0L) + one.lack);
            case 1:
                long least = Long.MAX_VALUE;
                for (int j = 0; j < 4; j++) {
                    least = Math.min(least, cell(one, j, hash(one.seed, j, x) % one.size));
                }
                return (int) least;
            case 4:
                return (int) Math.min(one.total, weights(one, x) + one.lack);
            default:
                return -1;
        }
    }

    int has(int s, int x) {
        if (no(s) || noKey(x)) {
            return -1;
        }
        One one = ones.get(s);
        if (one.sort == 3) {
            return hashes(one).contains(hash(one.seed, 0, x)) ? 1 : 0;
        }
        if (one.sort != 2) {
            return -1;
        }
        for (int j = 0; j < 4; j++) {
            if (bit(one, hash(one.seed, j, x) % one.size) == 0) {
                return 0;
            }
        }
        return 1;
    }

    int distinct(int s) {
        if (no(s) || ones.get(s).sort != 3) {
            return -1;
        }
        One one = ones.get(s);
        List<Integer> hashes = hashes(one);
        return hashes.size() < one.size ? hashes.size() : (one.size - 1) * 65537 / hashes.get(one.size - 1);
    }

    int quantile(int s, int q) {
        if (no(s) || ones.get(s).sort != 4 || q < 1 || q > ones.get(s).total) {
            return -1;
        }
        One one = ones.get(s);
        int best = Integer.MAX_VALUE;
        for (List<Integer> buffer : one.buffers) {
            for (int key : buffer) {
                best = key < best && weights(one, key) >= q ? key : best;
            }
        }
        return best;
    }

    int told(int s, int what) {
        if (no(s)) {
            return -1;
        }
        One one = ones.get(s);
        return switch (what) {
            case 0 -> one.sort;
            case 1 -> one.size;
            case 2 -> one.seed;
            case 3 -> (int) (one.total + MOST);
            case 4 -> (int) one.moved;
            case 5 -> (int) one.lack;
            case 6 -> howMany(one);
            default -> -1;
        };
    }

    private int howMany(One one) {
        int sum = 0;
        switch (one.sort) {
            case 0:
                return one.counters.size();
            case 1:
                for (int i = 0; i < 4 * one.size; i++) {
                    sum += cell(one, i / one.size, i % one.size) != 0 ? 1 : 0;
                }
                return sum;
            case 2:
                for (int i = 0; i < one.size; i++) {
                    sum += bit(one, i);
                }
                return sum;
            case 3:
                return hashes(one).size();
            default:
                for (List<Integer> buffer : one.buffers) {
                    sum += buffer.size();
                }
                return sum;
        }
    }

    int kept(int s, int i, int part) {
        if (no(s)) {
            return -1;
        }
        One one = ones.get(s);
        if (one.sort == 4) {
            if (part < 0 || part > 30) {
                return -1;
            }
            List<Integer> buffer = one.buffers.get(part);
            return i == -1 ? buffer.size() : i < -1 || i >= buffer.size() ? -1 : buffer.get(i);
        }
        if (i < 0 || part != 0 && !(one.sort == 0 && part == 1)) {
            return -1;
        }
        switch (one.sort) {
            case 0:
                if (i >= one.counters.size()) {
                    return -1;
                }
                int key = new ArrayList<>(one.counters.keySet()).get(i);
                return part == 0 ? key : (int) (long) one.counters.get(key);
            case 1:
                return i >= 4 * one.size ? -1 : (int) (cell(one, i / one.size, i % one.size) + MOST);
            case 2:
                return i >= one.size ? -1 : bit(one, i);
            default:
                List<Integer> hashes = hashes(one);
                return i >= hashes.size() ? -1 : hashes.get(i);
        }
    }

    int count() {
        return ones.size();
    }
}
