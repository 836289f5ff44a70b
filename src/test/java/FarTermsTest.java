/** What the makers of the promises 5 to 13 make, looked at far behind the terms it was made of. */
public final class FarTermsTest {
    private static final long P = Modular.P;
    private static final long FARTHEST = Long.MAX_VALUE;
    private static final long[] PLACES = {0, 1, 2, 3, 23, 24, 47, 48, 49, 87, 88, 89, 1000, P - 2, P - 1, P, P + 1,
        2 * P - 1, 2 * P, 1L << 32, P * P - 1, P * P, 1L << 62, FARTHEST - 1, FARTHEST};
    private static final Ladder SMALL = Ladder.small();
    private static final Ladder PRIMES = Ladder.primes();

    private final Check check = new Check("far terms of the promises 5 to 13");

    public static void main(String[] args) {
        FarTermsTest test = new FarTermsTest();
        for (Maker maker : Maker.ALL) {
            test.stepless(maker);
        }
        test.combine();
        test.product();
        test.sums();
        test.section();
        test.spread();
        test.check.end();
    }

    /** Those makers whose term n hangs on a term or two of the others. */
    private void stepless(Maker maker) {
        if (maker.name().equals("product") || maker.name().equals("sums")) {
            return;
        }
        check.sentence("what " + maker.name() + " makes, for any n");
        for (int a = 0; a <= Ladder.TOP; a++) {
            for (int b : new int[] {0, 1, 2, 5, 12}) {
                RecurrentSeries x = new RecurrentSeries();
                int j = SMALL.make(x, a);
                int k = PRIMES.make(x, b);
                int made = maker.make(x, j, k);
                boolean isLong = Definition.bound(maker, a, b) > 24;
                check.due("made of the orders " + a + " and " + b, made, isLong ? RecurrentSeries.LONG : k + 1);
                for (long n : isLong ? new long[0] : PLACES) {
                    if (n <= lastPlace(maker)) {
                        check.due("term " + n, x.term(made, n),
                            Definition.term(maker, at -> x.term(j, at), at -> x.term(k, at), n));
                    }
                }
            }
        }
    }

    /** The last n for which the place that it is read from is not past 2^63 - 1. */
    private static long lastPlace(Maker maker) {
        return switch (maker.name()) {
            case "derivative", "tail" -> FARTHEST - 1;
            case "section" -> (FARTHEST - 1000) / 24;
            default -> FARTHEST;
        };
    }

    private void combine() {
        check.sentence("Promise 5: The series x a(n) + y b(n), a being series j and b being series k");
        int[] some = {1, -1, 2147483646, -2147483648, 1234567890, -987654321};
        for (int p : some) {
            for (int q : some) {
                RecurrentSeries x = new RecurrentSeries();
                int j = SMALL.make(x, 7);
                int k = PRIMES.make(x, 9);
                int made = x.combine(j, k, p, q);
                for (long n : PLACES) {
                    long want = Math.floorMod((long) p * x.term(j, n) % P + (long) q * x.term(k, n) % P, P);
                    check.due("term " + n + " of " + p + " a + " + q + " b", x.term(made, n), want);
                }
            }
        }
    }

    /**
     * Times 1 - c(1) x - .. - c(r) x^r, both of the series a and the product a b come down: a to the
     * polynomial top of a degree below r, so a b to top times b.
     */
    private void product() {
        check.sentence("Promise 6: The series a(0) b(n) + a(1) b(n - 1) + .. + a(n) b(0)");
        int[][] orders = {{1, 1}, {1, 23}, {2, 5}, {5, 2}, {12, 12}, {23, 1}};
        for (int[] both : orders) {
            for (long n : PLACES) {
                if (n >= both[0]) {
                    productAt(both[0], both[1], n);
                }
            }
        }
    }

    private void productAt(int a, int b, long n) {
        RecurrentSeries x = new RecurrentSeries();
        int j = SMALL.make(x, a);
        int k = PRIMES.make(x, b);
        int made = x.product(j, k);
        long left = x.term(made, n);
        for (int i = 1; i <= a; i++) {
            left = Math.floorMod(left - (long) x.coefficient(j, i) * x.term(made, n - i), P);
        }
        long right = 0;
        for (int i = 0; i < a; i++) {
            long top = SMALL.term(a, i);
            for (int c = 1; c <= i; c++) {
                top = Math.floorMod(top - (long) x.coefficient(j, c) * SMALL.term(a, i - c), P);
            }
            right = (right + top * x.term(k, n - i)) % P;
        }
        check.due("the product of the orders " + a + " and " + b + " at " + n, left, right);
    }

    /** The sums of r^n up to n are (r^(n + 1) - 1) / (r - 1). */
    private void sums() {
        check.sentence("Promise 11: The series a(0) + a(1) + .. + a(n)");
        for (int r = 0; r <= 23; r++) {
            RecurrentSeries x = new RecurrentSeries();
            int k = SMALL.make(x, r);
            int made = x.sums(k);
            for (long n : PLACES) {
                long want = 0;
                for (int i = 0; i < r; i++) {
                    long ratio = SMALL.ratio(i);
                    long next = ratio * Modular.power(ratio, n) % P;
                    want = (want + (next - 1 + P) * Modular.inverse(ratio - 1)) % P;
                }
                check.due("the sums of the order " + r + " at " + n, x.term(made, n), want);
            }
        }
        sumsOfOnes();
    }

    private void sumsOfOnes() {
        RecurrentSeries x = new RecurrentSeries();
        Make.geometric(x, 1);
        x.sums(0);
        for (long n : PLACES) {
            check.due("the sums of ones at " + n, x.term(1, n), (n % P + 1) % P);
        }
    }

    private void section() {
        check.sentence("Promise 12: The series a(m n + i), for every m");
        for (int m = 1; m <= 24; m++) {
            for (int i : new int[] {0, 1, 23, 999, 1000}) {
                RecurrentSeries x = new RecurrentSeries();
                int k = SMALL.make(x, 24);
                int made = x.section(k, m, i);
                for (long n : PLACES) {
                    if (n <= (FARTHEST - i) / m) {
                        check.due("by " + m + " from " + i + " at " + n, x.term(made, n), x.term(k, m * n + i));
                    }
                }
            }
        }
    }

    private void spread() {
        check.sentence("Promise 13: The series whose term m n is a(n), and whose other terms are 0, for every m");
        for (int m = 1; m <= 24; m++) {
            RecurrentSeries x = new RecurrentSeries();
            int k = SMALL.make(x, 24 / m);
            int made = x.spread(k, m);
            for (long n : PLACES) {
                check.due("by " + m + " at " + n, x.term(made, n), n % m == 0 ? x.term(k, n / m) : 0);
            }
        }
    }
}
