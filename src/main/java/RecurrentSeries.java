/**
 * Infinite series modulo a prime that obey linear recurrences. Every series is held by its least
 * recurrence and its first terms, so equal series are held alike however they were made.
 */
public final class RecurrentSeries {
    public static final int BAD = -1;
    public static final int FULL = -2;
    public static final int LONG = -3;
    public static final int WRONG = -4;

    private static final int EQUAL = -1;
    private static final int NOT_IN_LIST = -2;

    private static final int MOST_SERIES = 20;
    private static final int MOST_GIVEN = 40;
    private static final int MOST_LEAF = 12;
    private static final int MOST_BOUND = 24;
    private static final int MOST_STEP = 24;
    private static final int MOST_START = 1000;

    // A series whose order is at most r is settled by its first 2 r terms.
    private static final int MOST_MADE = 2 * MOST_BOUND;
    // An order is at most 24, but a row that has room for 48 needs no proof of that to stay within.
    private static final int ORDER_ROOM = MOST_MADE;
    // obeys() reads the term that stands the whole row behind each of the first order terms.
    private static final int KEPT_TERMS = ORDER_ROOM + MOST_GIVEN;
    private static final int WALK_ROOM = MOST_STEP * (MOST_MADE - 1) + MOST_START + 1;

    private final Series[] list = new Series[MOST_SERIES];
    private final long[] row = new long[MOST_GIVEN];
    private final long[] made = new long[MOST_MADE];
    private final long[] walk = new long[WALK_ROOM];
    private final Finder finder = new Finder();
    private final Seeker seeker = new Seeker();
    private final Divider divider = new Divider();
    private int listed;
    private int given;

    public RecurrentSeries() {
        for (int k = 0; k < MOST_SERIES; k++) {
            list[k] = new Series();
        }
        listed = 0;
        given = 0;
    }

    public boolean give(int v) {
        if (given >= MOST_GIVEN) {
            return false;
        }
        row[given] = Numbers.of(v);
        given++;
        return true;
    }

    public int clear() {
        int had = given;
        given = 0;
        return had;
    }

    public int leaf(int r) {
        if (r < 0 || r > MOST_LEAF || given < 2 * r) {
            return BAD;
        }
        int number = numberFor(r);
        if (number < 0) {
            return number;
        }
        if (!othersFit(r)) {
            return WRONG;
        }
        for (int n = 0; n < r; n++) {
            made[n] = row[r + n];
        }
        for (int n = r; n < 2 * r; n++) {
            made[n] = Numbers.foretold(row, r, made, n);
        }
        given = 0;
        return enlist(r);
    }

    public int combine(int j, int k, int x, int y) {
        if (!isListed(j) || !isListed(k)) {
            return BAD;
        }
        Series a = list[j];
        Series b = list[k];
        int bound = a.order + b.order;
        int number = numberFor(bound);
        if (number < 0) {
            return number;
        }
        long p = Numbers.of(x);
        long q = Numbers.of(y);
        for (int n = 0; n < 2 * bound; n++) {
            made[n] = Numbers.plusTimes(Numbers.times(p, a.terms[n]), q, b.terms[n]);
        }
        return enlist(bound);
    }

    public int product(int j, int k) {
        if (!isListed(j) || !isListed(k)) {
            return BAD;
        }
        Series a = list[j];
        Series b = list[k];
        int bound = a.order + b.order;
        int number = numberFor(bound);
        if (number < 0) {
            return number;
        }
        for (int n = 0; n < 2 * bound; n++) {
            long sum = 0;
            for (int i = 0; i <= n; i++) {
                sum = Numbers.plusTimes(sum, a.terms[i], b.terms[n - i]);
            }
            made[n] = sum;
        }
        return enlist(bound);
    }

    public int pairwise(int j, int k) {
        if (!isListed(j) || !isListed(k)) {
            return BAD;
        }
        Series a = list[j];
        Series b = list[k];
        int bound = a.order * b.order;
        int number = numberFor(bound);
        if (number < 0) {
            return number;
        }
        for (int n = 0; n < 2 * bound; n++) {
            made[n] = Numbers.times(a.terms[n], b.terms[n]);
        }
        return enlist(bound);
    }

    public int derivative(int k) {
        if (!isListed(k)) {
            return BAD;
        }
        Series a = list[k];
        int bound = 2 * a.order;
        int number = numberFor(bound);
        if (number < 0) {
            return number;
        }
        for (int n = 0; n < 2 * bound; n++) {
            made[n] = Numbers.times(n + 1, a.terms[n + 1]);
        }
        return enlist(bound);
    }

    public int tail(int k) {
        if (!isListed(k)) {
            return BAD;
        }
        Series a = list[k];
        int bound = a.order;
        int number = numberFor(bound);
        if (number < 0) {
            return number;
        }
        for (int n = 0; n < 2 * bound; n++) {
            made[n] = a.terms[n + 1];
        }
        return enlist(bound);
    }

    public int delay(int k) {
        if (!isListed(k)) {
            return BAD;
        }
        Series a = list[k];
        int bound = a.order + 1;
        int number = numberFor(bound);
        if (number < 0) {
            return number;
        }
        made[0] = 0;
        for (int n = 1; n < 2 * bound; n++) {
            made[n] = a.terms[n - 1];
        }
        return enlist(bound);
    }

    public int sums(int k) {
        if (!isListed(k)) {
            return BAD;
        }
        Series a = list[k];
        int bound = a.order + 1;
        int number = numberFor(bound);
        if (number < 0) {
            return number;
        }
        long sum = 0;
        for (int n = 0; n < 2 * bound; n++) {
            sum = Numbers.plus(sum, a.terms[n]);
            made[n] = sum;
        }
        return enlist(bound);
    }

    public int section(int k, int m, int i) {
        if (!isListed(k) || m < 1 || m > MOST_STEP || i < 0 || i > MOST_START) {
            return BAD;
        }
        Series a = list[k];
        int bound = a.order;
        int number = numberFor(bound);
        if (number < 0) {
            return number;
        }
        a.writeTerms(walk, m * (2 * bound - 1) + i + 1);
        for (int n = 0; n < 2 * bound; n++) {
            made[n] = walk[m * n + i];
        }
        return enlist(bound);
    }

    public int spread(int k, int m) {
        if (!isListed(k) || m < 1 || m > MOST_STEP) {
            return BAD;
        }
        Series a = list[k];
        int bound = m * a.order;
        int number = numberFor(bound);
        if (number < 0) {
            return number;
        }
        for (int n = 0; n < 2 * bound; n++) {
            made[n] = n % m == 0 ? a.terms[n / m] : 0;
        }
        return enlist(bound);
    }

    public boolean forget() {
        if (listed == 0) {
            return false;
        }
        listed--;
        return true;
    }

    public int count() {
        return listed;
    }

    public int order(int k) {
        return isListed(k) ? list[k].order : BAD;
    }

    public int coefficient(int k, int i) {
        if (!isListed(k) || i < 1 || i > list[k].order) {
            return BAD;
        }
        return (int) list[k].coefficients[i - 1];
    }

    public int term(int k, long n) {
        if (!isListed(k) || n < 0) {
            return BAD;
        }
        return (int) seeker.seek(list[k], n);
    }

    public int differ(int j, int k) {
        if (!isListed(j) || !isListed(k)) {
            return NOT_IN_LIST;
        }
        Series a = list[j];
        Series b = list[k];
        // The difference of the two has an order of at most 48: if it begins with 48 zeros, it is 0.
        for (int n = 0; n < 2 * MOST_BOUND; n++) {
            if (a.terms[n] != b.terms[n]) {
                return n;
            }
        }
        return EQUAL;
    }

    public boolean obeys(int k) {
        if (!isListed(k)) {
            return false;
        }
        Series a = list[k];
        // What the terms miss is itself a series that obeys a's recurrence: order zeros make it 0.
        for (int n = given; n < given + a.order; n++) {
            if (a.terms[n] != Numbers.foretold(row, given, a.terms, n)) {
                return false;
            }
        }
        return true;
    }

    public int shared(int j, int k) {
        if (!isListed(j) || !isListed(k)) {
            return BAD;
        }
        Series a = list[j];
        Series b = list[k];
        // What both obey are the common multiples of their two polynomials.
        return a.order + b.order - divider.commonDegree(a, b);
    }

    private boolean isListed(int k) {
        return k >= 0 && k < listed;
    }

    /** The number that a new series of this bound gets, or why there can be none. */
    private int numberFor(int bound) {
        if (listed >= MOST_SERIES) {
            return FULL;
        }
        return bound > MOST_BOUND ? LONG : listed;
    }

    /** Whether the numbers behind the first r of the row obey these. */
    private boolean othersFit(int r) {
        for (int n = 2 * r; n < given; n++) {
            if (row[n] != Numbers.foretold(row, r, row, n)) {
                return false;
            }
        }
        return true;
    }

    /** Lists the series whose order is at most the bound and whose first terms stand in made. */
    private int enlist(int bound) {
        Series fresh = list[listed];
        finder.find(made, 2 * bound, fresh);
        for (int n = 0; n < fresh.order; n++) {
            fresh.terms[n] = made[n];
        }
        fresh.writeTerms(fresh.terms, KEPT_TERMS);
        listed++;
        return listed - 1;
    }

    /** Arithmetic modulo P, on longs so that a product of two numbers has room. */
    private static final class Numbers {
        private static final long P = 2147483647;

        static long of(int v) {
            long rest = v % P;
            return rest < 0 ? rest + P : rest;
        }

        static long plus(long a, long b) {
            return (a + b) % P;
        }

        static long minus(long a, long b) {
            return (a + P - b) % P;
        }

        static long times(long a, long b) {
            return a * b % P;
        }

        static long plusTimes(long sum, long a, long b) {
            return (sum + a * b) % P;
        }

        /** The inverse of a number that is not 0: its power P - 2. */
        static long inverse(long a) {
            long power = 1;
            long square = a;
            for (long left = P - 2; left > 0; left >>= 1) {
                if ((left & 1) == 1) {
                    power = times(power, square);
                }
                square = times(square, square);
            }
            return power;
        }

        /** What the recurrence c[0] .. c[r - 1] asks of values[n], for n of at least r. */
        static long foretold(long[] c, int r, long[] values, int n) {
            long sum = 0;
            for (int i = 0; i < r; i++) {
                sum = plusTimes(sum, c[i], values[n - 1 - i]);
            }
            return sum;
        }
    }

    /** A series: its order, its coefficients (c(i) at i - 1) and its first terms. */
    private static final class Series {
        private int order;
        private final long[] coefficients = new long[ORDER_ROOM];
        private final long[] terms = new long[KEPT_TERMS];

        /** Writes the first length terms; the first order of them must stand in terms. */
        void writeTerms(long[] values, int length) {
            for (int n = 0; n < length; n++) {
                values[n] = n < order ? terms[n] : Numbers.foretold(coefficients, order, values, n);
            }
        }
    }

    /** Finds the least recurrence that some first terms obey, by Berlekamp's and Massey's way. */
    private static final class Finder {
        private long[] now = new long[ORDER_ROOM];
        private long[] before = new long[ORDER_ROOM];
        private long[] spare = new long[ORDER_ROOM];

        /** Gives the series its order and its coefficients. */
        void find(long[] values, int length, Series series) {
            erase(now);
            erase(before);
            int order = 0;
            int lag = 1;
            long missBefore = 1;
            for (int n = 0; n < length; n++) {
                long miss = Numbers.minus(values[n], Numbers.foretold(now, order, values, n));
                if (miss == 0) {
                    lag++;
                    continue;
                }
                long factor = Numbers.times(miss, Numbers.inverse(missBefore));
                boolean grows = 2 * order <= n;
                mend(factor, lag, n);
                lag++;
                if (grows) {
                    keepUnmended();
                    order = n + 1 - order;
                    missBefore = miss;
                    lag = 1;
                }
            }
            series.order = order;
            for (int i = 0; i < order; i++) {
                series.coefficients[i] = now[i];
            }
        }

        /**
         * Takes factor x^lag times the polynomial before from the polynomial now, and leaves the
         * unmended one in spare. A row c stands for the polynomial 1 - c[0] x - c[1] x^2 - ..
         */
        private void mend(long factor, int lag, int n) {
            for (int i = 0; i < ORDER_ROOM; i++) {
                spare[i] = now[i];
            }
            now[lag - 1] = Numbers.plus(now[lag - 1], factor);
            for (int i = lag; i <= n; i++) {
                now[i] = Numbers.minus(now[i], Numbers.times(factor, before[i - lag]));
            }
        }

        private void keepUnmended() {
            long[] free = before;
            before = spare;
            spare = free;
        }

        private static void erase(long[] values) {
            for (int i = 0; i < ORDER_ROOM; i++) {
                values[i] = 0;
            }
        }
    }

    /**
     * Finds far terms. A series is a fraction top / bottom of polynomials; widened by bottom(-x),
     * the lower part has even powers alone, so that the terms of one parity are again such a
     * fraction (Bostan's and Mori's way).
     */
    private static final class Seeker {
        private long[] top = new long[ORDER_ROOM + 1];
        private long[] bottom = new long[ORDER_ROOM + 1];
        private long[] nextTop = new long[ORDER_ROOM + 1];
        private long[] nextBottom = new long[ORDER_ROOM + 1];
        private final long[] mirrored = new long[ORDER_ROOM + 1];

        long seek(Series series, long n) {
            load(series);
            for (int bit = 0; bit < 63 && n >> bit != 0; bit++) {
                halve(series.order, (int) (n >> bit & 1));
            }
            // bottom[0] is 1 at every step, so the first term is top[0].
            return top[0];
        }

        private void load(Series series) {
            bottom[0] = 1;
            for (int i = 0; i < series.order; i++) {
                bottom[i + 1] = Numbers.minus(0, series.coefficients[i]);
                long foretold = Numbers.foretold(series.coefficients, i, series.terms, i);
                top[i] = Numbers.minus(series.terms[i], foretold);
            }
            top[series.order] = 0;
        }

        /** Goes on to the series of the terms at even places, or at odd places. */
        private void halve(int order, int parity) {
            for (int i = 0; i <= order; i++) {
                mirrored[i] = (i & 1) == 0 ? bottom[i] : Numbers.minus(0, bottom[i]);
            }
            for (int i = 0; i <= order; i++) {
                nextTop[i] = timesMirrored(top, order, 2 * i + parity);
                nextBottom[i] = timesMirrored(bottom, order, 2 * i);
            }
            long[] free = top;
            top = nextTop;
            nextTop = free;
            free = bottom;
            bottom = nextBottom;
            nextBottom = free;
        }

        /** The factor of x^at in the polynomial times the mirrored one, both of degree order. */
        private long timesMirrored(long[] polynomial, int order, int at) {
            long sum = 0;
            for (int i = Math.max(0, at - order); i <= order && i <= at; i++) {
                sum = Numbers.plusTimes(sum, polynomial[i], mirrored[at - i]);
            }
            return sum;
        }
    }

    /** Finds what the polynomials x^r - c(1) x^(r - 1) - .. - c(r) of two series have in common. */
    private static final class Divider {
        private final long[] first = new long[ORDER_ROOM + 1];
        private final long[] second = new long[ORDER_ROOM + 1];

        /** The degree of the greatest common divisor, by Euclid's way. */
        int commonDegree(Series a, Series b) {
            load(first, a);
            load(second, b);
            long[] large = first;
            long[] small = second;
            int largeDegree = a.order;
            int smallDegree = b.order;
            // After the first round the small degree falls in each, down to -1 for the polynomial 0.
            for (int round = 0; round <= ORDER_ROOM + 1 && smallDegree >= 0; round++) {
                int restDegree = reduce(large, largeDegree, small, smallDegree);
                long[] rest = large;
                large = small;
                largeDegree = smallDegree;
                small = rest;
                smallDegree = restDegree;
            }
            return largeDegree;
        }

        private static void load(long[] polynomial, Series series) {
            polynomial[series.order] = 1;
            for (int i = 0; i < series.order; i++) {
                polynomial[series.order - 1 - i] = Numbers.minus(0, series.coefficients[i]);
            }
        }

        /** Leaves in large what is over when it is divided by small; answers the degree of that. */
        private static int reduce(long[] large, int largeDegree, long[] small, int smallDegree) {
            long inverse = Numbers.inverse(small[smallDegree]);
            for (int top = largeDegree; top >= smallDegree; top--) {
                long factor = Numbers.times(large[top], inverse);
                int shift = top - smallDegree;
                for (int i = 0; i <= smallDegree; i++) {
                    large[shift + i] = Numbers.minus(large[shift + i], Numbers.times(factor, small[i]));
                }
            }
            int degree = largeDegree;
            while (degree >= 0 && large[degree] == 0) {
                degree--;
            }
            return degree;
        }
    }
}
