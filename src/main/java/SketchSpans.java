/**
 * Sketches of rows of keys, smaller than the rows, that tell bounds which always hold.
 * The words in capitals in the comments are those of the document.
 */
public final class SketchSpans {
    public static final int BAD = -1, NONE = -2, FULL = -3;

    private static final int HEAVY = 0, TABLE = 1, FILTER = 2, LEAST = 3, RANKS = 4;
    private static final int[] SMALLEST_SIZES = {1, 4, 16, 2, 4};
    private static final int[] LARGEST_SIZES = {20, 64, 512, 32, 32};

    private static final int MOST_SKETCHES = 8;
    private static final int MOST_MOVED = 10000000;
    private static final int KEYS = 10000;
    private static final int SEEDS = 1000;
    private static final int HASHES = 4;
    private static final int HASH_MODULUS = 65537;

    // TOTAL and CELLS may be below 0: so much more, no answer of theirs looks like BAD.
    private static final int LIFT = 10000000;

    private final Sketch[] sketches;
    private int made;

    public SketchSpans() {
        sketches = new Sketch[MOST_SKETCHES];
        made = 0;
    }

    public int sketch(int sort, int size, int seed) {
        if (!isSort(sort) || !isSize(sort, size) || !isSeed(seed)) {
            return BAD;
        }
        if (made >= MOST_SKETCHES) {
            return FULL;
        }
        return keep(newSketch(sort, size, seed));
    }

    public int copy(int s) {
        Sketch one = find(s);
        if (one == null) {
            return BAD;
        }
        if (made >= MOST_SKETCHES) {
            return FULL;
        }
        return keep(one.twin());
    }

    public int clear(int s) {
        Sketch one = find(s);
        if (one == null) {
            return BAD;
        }
        int had = one.total;
        one.total = 0;
        one.moved = 0;
        one.forget();
        return had + LIFT;
    }

    public int come(int s, int x, int n) {
        Sketch one = find(s);
        if (one == null || !isKey(x) || !one.mayTake(n)) {
            return BAD;
        }
        if (one.moved + Math.abs(n) > MOST_MOVED) {
            return FULL;
        }
        one.total += n;
        one.moved += Math.abs(n);
        one.take(x, n);
        return one.total + LIFT;
    }

    public int merge(int a, int b) {
        Sketch one = find(a);
        Sketch other = find(b);
        if (one == null || other == null || a == b || !one.isLike(other)) {
            return BAD;
        }
        if (one.moved + other.moved > MOST_MOVED) {
            return FULL;
        }
        one.total += other.total;
        one.moved += other.moved;
        one.join(other);
        return one.total + LIFT;
    }

    public int hash(int seed, int j, int x) {
        if (!isSeed(seed) || j < 0 || j >= HASHES || !isKey(x)) {
            return BAD;
        }
        return hashOf(seed, j, x);
    }

    public int low(int s, int x) {
        Sketch one = find(s);
        return one == null || !isKey(x) ? BAD : one.atLeast(x);
    }

    public int high(int s, int x) {
        Sketch one = find(s);
        return one == null || !isKey(x) ? BAD : one.atMost(x);
    }

    public int has(int s, int x) {
        Sketch one = find(s);
        return one == null || !isKey(x) ? BAD : one.holds(x);
    }

    public int distinct(int s) {
        Sketch one = find(s);
        return one == null ? BAD : one.differentKeys();
    }

    public int quantile(int s, int q) {
        Sketch one = find(s);
        return one == null ? BAD : one.keyAtRank(q);
    }

    public int told(int s, int what) {
        Sketch one = find(s);
        if (one == null) {
            return BAD;
        }
        switch (what) {
            case 0:
                return one.sort;
            case 1:
                return one.size;
            case 2:
                return one.seed;
            case 3:
                return one.total + LIFT;
            case 4:
                return one.moved;
            case 5:
                return one.mayLack();
            case 6:
                return one.howManyKept();
            default:
                return BAD;
        }
    }

    public int kept(int s, int i, int part) {
        Sketch one = find(s);
        return one == null ? BAD : one.keptAt(i, part);
    }

    public int count() {
        return made;
    }

    private Sketch find(int s) {
        return s < 0 || s >= made || s >= sketches.length ? null : sketches[s];
    }

    private int keep(Sketch one) {
        if (made >= sketches.length) {
            return FULL;
        }
        sketches[made] = one;
        made++;
        return made - 1;
    }

    private static boolean isSort(int sort) {
        return sort >= HEAVY && sort <= RANKS;
    }

    private static boolean isSize(int sort, int size) {
        if (sort < 0 || sort >= SMALLEST_SIZES.length || sort >= LARGEST_SIZES.length) {
            return false;
        }
        if (sort == RANKS && size % 2 != 0) {
            return false;
        }
        return size >= SMALLEST_SIZES[sort] && size <= LARGEST_SIZES[sort];
    }

    private static boolean isSeed(int seed) {
        return seed >= 0 && seed < SEEDS;
    }

    private static boolean isKey(int x) {
        return x >= 0 && x < KEYS;
    }

    private static Sketch newSketch(int sort, int size, int seed) {
        switch (sort) {
            case HEAVY:
                return new Heavy(size, seed);
            case TABLE:
                return new Table(size, seed);
            case FILTER:
                return new Filter(size, seed);
            case LEAST:
                return new Least(size, seed);
            default:
                return new Ranks(size, seed);
        }
    }

    private static int hashOf(int seed, int j, int x) {
        return ((1 + 31 * seed + 977 * j) * (x + 1) + 4391 * j + 7 * seed) % HASH_MODULUS;
    }

    /** HASH j as a place among so many. */
    private static int placeOf(int seed, int j, int x, int places) {
        return places < 1 ? 0 : hashOf(seed, j, x) % places;
    }

    private static void copyRow(int[] from, int[] to) {
        for (int i = 0; i < from.length && i < to.length; i++) {
            to[i] = from[i];
        }
    }

    private static void clearRow(int[] row) {
        for (int i = 0; i < row.length; i++) {
            row[i] = 0;
        }
    }

    private static int countNotZero(int[] row) {
        int found = 0;
        for (int i = 0; i < row.length; i++) {
            if (row[i] != 0) {
                found++;
            }
        }
        return found;
    }

    /** Where a value stands in a rising row of which so many places are held, or would have to stand. */
    private static int placeFor(int value, int[] row, int held) {
        int place = 0;
        while (place < held && place < row.length && row[place] < value) {
            place++;
        }
        return place;
    }

    private static boolean standsAt(int place, int value, int[] row, int held) {
        return place >= 0 && place < held && place < row.length && row[place] == value;
    }

    /** What all SORTS have; a question that a SORT has no answer for is BAD. */
    private abstract static class Sketch {
        final int sort;
        final int size;
        final int seed;
        int total;
        int moved;

        Sketch(int sort, int size, int seed) {
            this.sort = sort;
            this.size = size;
            this.seed = seed;
            this.total = 0;
            this.moved = 0;
        }

        /** A new one that is just as this one is. */
        abstract Sketch twin();

        abstract void forget();

        abstract void take(int x, int n);

        /** Takes in another one, which must be LIKE this one. */
        abstract void join(Sketch other);

        abstract int howManyKept();

        abstract int keptAt(int i, int part);

        boolean mayTake(int n) {
            return n >= 1 && n <= 1000;
        }

        int mayLack() {
            return 0;
        }

        int atLeast(int x) {
            return BAD;
        }

        int atMost(int x) {
            return BAD;
        }

        int holds(int x) {
            return BAD;
        }

        int differentKeys() {
            return BAD;
        }

        int keyAtRank(int q) {
            return BAD;
        }

        final boolean isLike(Sketch other) {
            return other != null && sort == other.sort && size == other.size && seed == other.seed;
        }

        final void copyTotals(Sketch from) {
            total = from.total;
            moved = from.moved;
        }
    }

    /** SORT 0: COUNTERS in the order of their KEYS. */
    private static final class Heavy extends Sketch {
        private final int[] keys;
        private final int[] numbers;
        private int held;
        private int lost;

        Heavy(int size, int seed) {
            super(HEAVY, size, seed);
            // While two are MADE ONE, the COUNTERS of both stand here.
            keys = new int[2 * size];
            numbers = new int[2 * size];
            held = 0;
            lost = 0;
        }

        Sketch twin() {
            Heavy twin = new Heavy(size, seed);
            twin.copyTotals(this);
            copyRow(keys, twin.keys);
            copyRow(numbers, twin.numbers);
            twin.held = held;
            twin.lost = lost;
            return twin;
        }

        void forget() {
            held = 0;
            lost = 0;
        }

        void take(int x, int n) {
            int left = n;
            if (held >= size && !standsAt(placeFor(x, keys, held), x, keys, held)) {
                // Once is enough: it uses up what is left or frees a COUNTER.
                int less = leastNumber(left);
                left -= less;
                lower(less);
            }
            if (left > 0) {
                add(x, left);
            }
        }

        void join(Sketch other) {
            if (other instanceof Heavy from) {
                for (int i = 0; i < from.held && i < from.keys.length; i++) {
                    add(from.keys[i], from.numbers[i]);
                }
                lost += from.lost;
                if (held > size) {
                    lower(firstNumberTooMany());
                }
            }
        }

        int howManyKept() {
            return held;
        }

        int keptAt(int i, int part) {
            if (i < 0 || i >= held || i >= keys.length || part < 0 || part > 1) {
                return BAD;
            }
            return part == 0 ? keys[i] : numbers[i];
        }

        int mayLack() {
            return lost;
        }

        int atLeast(int x) {
            int place = placeFor(x, keys, held);
            return standsAt(place, x, keys, held) ? numbers[place] : 0;
        }

        int atMost(int x) {
            return atLeast(x) + lost;
        }

        private void add(int x, int n) {
            int place = placeFor(x, keys, held);
            if (standsAt(place, x, keys, held)) {
                numbers[place] += n;
            } else if (held < keys.length) {
                for (int i = held; i > place; i--) {
                    keys[i] = keys[i - 1];
                    numbers[i] = numbers[i - 1];
                }
                keys[place] = x;
                numbers[place] = n;
                held++;
            }
        }

        private int leastNumber(int limit) {
            int least = limit;
            for (int i = 0; i < held && i < numbers.length; i++) {
                least = Math.min(least, numbers[i]);
            }
            return least;
        }

        private void lower(int less) {
            lost += less;
            int stay = 0;
            for (int i = 0; i < held && i < keys.length; i++) {
                if (numbers[i] > less) {
                    keys[stay] = keys[i];
                    numbers[stay] = numbers[i] - less;
                    stay++;
                }
            }
            held = stay;
        }

        /** The greatest NUMBER that more than SIZE ones are not below: that of the SIZE + 1 st. */
        private int firstNumberTooMany() {
            int found = 0;
            for (int i = 0; i < held && i < numbers.length; i++) {
                if (numbers[i] > found && howManyNotBelow(numbers[i]) > size) {
                    found = numbers[i];
                }
            }
            return found;
        }

        private int howManyNotBelow(int number) {
            int found = 0;
            for (int i = 0; i < held && i < numbers.length; i++) {
                if (numbers[i] >= number) {
                    found++;
                }
            }
            return found;
        }
    }

    /** SORT 1: the rows of CELLS lie one behind the other. */
    private static final class Table extends Sketch {
        private final int[] cells;

        Table(int size, int seed) {
            super(TABLE, size, seed);
            cells = new int[HASHES * size];
        }

        Sketch twin() {
            Table twin = new Table(size, seed);
            twin.copyTotals(this);
            copyRow(cells, twin.cells);
            return twin;
        }

        void forget() {
            clearRow(cells);
        }

        boolean mayTake(int n) {
            return n >= -1000 && n <= 1000 && n != 0;
        }

        void take(int x, int n) {
            for (int j = 0; j < HASHES; j++) {
                int place = placeIn(j, x);
                if (place < cells.length) {
                    cells[place] += n;
                }
            }
        }

        void join(Sketch other) {
            if (other instanceof Table from) {
                for (int i = 0; i < cells.length && i < from.cells.length; i++) {
                    cells[i] += from.cells[i];
                }
            }
        }

        int howManyKept() {
            return countNotZero(cells);
        }

        int keptAt(int i, int part) {
            return i < 0 || i >= cells.length || part != 0 ? BAD : cells[i] + LIFT;
        }

        int atMost(int x) {
            int least = MOST_MOVED;
            for (int j = 0; j < HASHES; j++) {
                int place = placeIn(j, x);
                if (place < cells.length) {
                    least = Math.min(least, cells[place]);
                }
            }
            return least;
        }

        private int placeIn(int j, int x) {
            return j * size + placeOf(seed, j, x, size);
        }
    }

    /** SORT 2: a BIT is 1 if it is set, else 0. */
    private static final class Filter extends Sketch {
        private final int[] bits;

        Filter(int size, int seed) {
            super(FILTER, size, seed);
            bits = new int[size];
        }

        Sketch twin() {
            Filter twin = new Filter(size, seed);
            twin.copyTotals(this);
            copyRow(bits, twin.bits);
            return twin;
        }

        void forget() {
            clearRow(bits);
        }

        void take(int x, int n) {
            for (int j = 0; j < HASHES; j++) {
                int place = placeOf(seed, j, x, size);
                if (place < bits.length) {
                    bits[place] = 1;
                }
            }
        }

        void join(Sketch other) {
            if (other instanceof Filter from) {
                for (int i = 0; i < bits.length && i < from.bits.length; i++) {
                    bits[i] |= from.bits[i];
                }
            }
        }

        int howManyKept() {
            return countNotZero(bits);
        }

        int keptAt(int i, int part) {
            return i < 0 || i >= bits.length || part != 0 ? BAD : bits[i];
        }

        int holds(int x) {
            int all = 1;
            for (int j = 0; j < HASHES; j++) {
                int place = placeOf(seed, j, x, size);
                if (place < bits.length) {
                    all &= bits[place];
                }
            }
            return all;
        }
    }

    /** SORT 3: the HASHES that are kept, in rising order. */
    private static final class Least extends Sketch {
        private final int[] hashes;
        private int held;

        Least(int size, int seed) {
            super(LEAST, size, seed);
            hashes = new int[size];
            held = 0;
        }

        Sketch twin() {
            Least twin = new Least(size, seed);
            twin.copyTotals(this);
            copyRow(hashes, twin.hashes);
            twin.held = held;
            return twin;
        }

        void forget() {
            held = 0;
        }

        void take(int x, int n) {
            add(hashOf(seed, 0, x));
        }

        void join(Sketch other) {
            if (other instanceof Least from) {
                for (int i = 0; i < from.held && i < from.hashes.length; i++) {
                    add(from.hashes[i]);
                }
            }
        }

        int howManyKept() {
            return held;
        }

        int keptAt(int i, int part) {
            return i < 0 || i >= held || i >= hashes.length || part != 0 ? BAD : hashes[i];
        }

        int holds(int x) {
            int hash = hashOf(seed, 0, x);
            return standsAt(placeFor(hash, hashes, held), hash, hashes, held) ? 1 : 0;
        }

        int differentKeys() {
            if (held < size || held < 1 || held > hashes.length) {
                return held;
            }
            int greatest = hashes[held - 1];
            // No two KEYS have the same HASH, so the greatest of two or more is above 0.
            return greatest < 1 ? held : (size - 1) * HASH_MODULUS / greatest;
        }

        private void add(int hash) {
            int place = placeFor(hash, hashes, held);
            if (place >= hashes.length || standsAt(place, hash, hashes, held)) {
                return;
            }
            // If all places are taken, the greatest one falls off the end.
            held = Math.min(held + 1, hashes.length);
            for (int i = held - 1; i > place; i--) {
                hashes[i] = hashes[i - 1];
            }
            hashes[place] = hash;
        }
    }

    /** SORT 4: BUFFER i lies from place i times SIZE on. */
    private static final class Ranks extends Sketch {
        // As many as may be asked for; MOVED keeps all above 23 empty.
        private static final int BUFFERS = 31;
        // Halving 10,000 KEYS so often leaves one.
        private static final int HALVINGS = 14;

        private final int[] keys;
        private final int[] lengths;
        private final int[] turns;
        private int error;

        Ranks(int size, int seed) {
            super(RANKS, size, seed);
            keys = new int[BUFFERS * size];
            lengths = new int[BUFFERS];
            turns = new int[BUFFERS];
            error = 0;
        }

        Sketch twin() {
            Ranks twin = new Ranks(size, seed);
            twin.copyTotals(this);
            copyRow(keys, twin.keys);
            copyRow(lengths, twin.lengths);
            copyRow(turns, twin.turns);
            twin.error = error;
            return twin;
        }

        void forget() {
            clearRow(lengths);
            clearRow(turns);
            error = 0;
        }

        boolean mayTake(int n) {
            return n >= 1 && n <= 100;
        }

        void take(int x, int n) {
            for (int time = 0; time < n; time++) {
                push(0, x);
            }
        }

        void join(Sketch other) {
            if (other instanceof Ranks from) {
                for (int buffer = 0; buffer < BUFFERS; buffer++) {
                    for (int i = 0; i < from.lengths[buffer] && i < size; i++) {
                        push(buffer, from.keyAt(buffer, i));
                    }
                }
                error += from.error;
            }
        }

        int howManyKept() {
            int found = 0;
            for (int buffer = 0; buffer < BUFFERS; buffer++) {
                found += lengths[buffer];
            }
            return found;
        }

        int keptAt(int i, int part) {
            if (part < 0 || part >= BUFFERS || i < -1 || i >= lengths[part]) {
                return BAD;
            }
            return i == -1 ? lengths[part] : keyAt(part, i);
        }

        int mayLack() {
            return error;
        }

        int atLeast(int x) {
            return Math.max(0, weightUpTo(x) - error);
        }

        int atMost(int x) {
            return Math.min(total, weightUpTo(x) + error);
        }

        int keyAtRank(int q) {
            if (q < 1 || q > total) {
                return BAD;
            }
            // The least of all KEYS that weighs enough is a kept one: weight is only gained there.
            int low = 0;
            int high = KEYS - 1;
            for (int step = 0; step < HALVINGS && low < high; step++) {
                int middle = (low + high) / 2;
                if (weightUpTo(middle) >= q) {
                    high = middle;
                } else {
                    low = middle + 1;
                }
            }
            return low;
        }

        private int keyAt(int buffer, int i) {
            int place = buffer * size + i;
            return place < 0 || place >= keys.length ? 0 : keys[place];
        }

        /** The WEIGHTS of all KEYS not above x. */
        private int weightUpTo(int x) {
            int weight = 0;
            for (int buffer = 0; buffer < BUFFERS; buffer++) {
                for (int i = 0; i < lengths[buffer]; i++) {
                    if (keyAt(buffer, i) <= x) {
                        weight += 1 << buffer;
                    }
                }
            }
            return weight;
        }

        private void push(int buffer, int x) {
            if (buffer < 0 || buffer >= BUFFERS || lengths[buffer] >= size) {
                return;
            }
            keys[buffer * size + lengths[buffer]] = x;
            lengths[buffer]++;
            if (lengths[buffer] >= size) {
                collapse(buffer);
            }
        }

        private void collapse(int buffer) {
            sortBuffer(buffer);
            int turn = turns[buffer];
            turns[buffer] = 1 - turn;
            error += 1 << buffer;
            lengths[buffer] = 0;
            // Only BUFFERS above are written to, so the KEYS still lie here while they go.
            for (int i = turn; i < size; i += 2) {
                push(buffer + 1, keyAt(buffer, i));
            }
        }

        private void sortBuffer(int buffer) {
            int first = buffer * size;
            for (int i = first + 1; i < first + size && i < keys.length; i++) {
                int key = keys[i];
                int place = i;
                while (place > first && keys[place - 1] > key) {
                    keys[place] = keys[place - 1];
                    place--;
                }
                keys[place] = key;
            }
        }
    }
}
