import java.util.HashSet;
import java.util.Set;
import java.util.function.IntToLongFunction;

/** The boundary sentences of the promises 5 to 13: what is made out of series of every order. */
public final class BoundaryMakersTest {
    private static final int BAD = RecurrentSeries.BAD;
    private static final int LONG = RecurrentSeries.LONG;
    private static final int TOP = Ladder.TOP;
    private static final Ladder SMALL = Ladder.small();
    private static final Ladder PRIMES = Ladder.primes();

    private final Check check = new Check("boundaries of the makers");

    public static void main(String[] args) {
        BoundaryMakersTest test = new BoundaryMakersTest();
        test.combineOfOneSeries();
        test.combineWithAnyInts();
        test.boundOfCombine();
        test.productOfOneSeries();
        test.boundOfProduct();
        test.pairwiseOfOneSeries();
        test.boundOfPairwise();
        test.pairwiseOfTheOrderZero();
        test.boundOfDerivative();
        test.boundOfTail();
        test.boundOfDelay();
        test.boundOfSums();
        test.stepOfSection();
        test.startOfSection();
        test.boundOfSection();
        test.stepOfSpread();
        test.boundOfSpread();
        test.boundsOfSeriesThatEnd();
        test.check.end();
    }

    /** Asks for LONG above the bound 24, else for the next number, that order and these terms. */
    private void made(RecurrentSeries x, int count, int answer, int bound, int order, IntToLongFunction term) {
        if (bound > TOP) {
            check.due("made with the bound " + bound, answer, LONG);
            check.due("count() after LONG", x.count(), count);
            return;
        }
        check.due("made with the bound " + bound, answer, count);
        check.due("its order", x.order(answer), order);
        for (int n = 0; n <= 2 * bound + 1; n++) {
            check.due("its term " + n, x.term(answer, n), Math.floorMod(term.applyAsLong(n), Modular.P));
        }
    }

    private static long convolved(int a, int b, Ladder first, Ladder second, int n) {
        long sum = 0;
        for (int i = 0; i <= n; i++) {
            sum = (sum + first.term(a, i) * second.term(b, n - i)) % Modular.P;
        }
        return sum;
    }

    private void combineOfOneSeries() {
        check.sentence("Promise 5: j may be k");
        for (int r = 0; r <= TOP; r++) {
            int a = r;
            RecurrentSeries x = new RecurrentSeries();
            int k = SMALL.make(x, a);
            made(x, k + 1, x.combine(k, k, 3, -1), 2 * a, a, n -> 2 * SMALL.term(a, n));
        }
    }

    private void combineWithAnyInts() {
        check.sentence("Promise 5: x and y stand for numbers");
        int[] some = {0, 1, -1, 2147483647, 2147483646, -2147483648, -2147483647};
        for (int p : some) {
            for (int q : some) {
                RecurrentSeries x = new RecurrentSeries();
                Make.geometric(x, 2);
                Make.geometric(x, 3);
                int order = (p % Modular.P == 0 ? 0 : 1) + (q % Modular.P == 0 ? 0 : 1);
                made(x, 2, x.combine(0, 1, p, q), 2, order, n -> p * Modular.power(2, n) + q * Modular.power(3, n));
            }
        }
    }

    private void boundOfCombine() {
        check.sentence("Promise 5: Bound: the sum of the orders");
        for (int i = 0; i <= TOP; i++) {
            for (int j = 0; j <= TOP; j++) {
                int a = i;
                int b = j;
                RecurrentSeries x = new RecurrentSeries();
                int first = SMALL.make(x, a);
                int second = PRIMES.make(x, b);
                made(x, second + 1, x.combine(first, second, 3, -2), a + b, a + b,
                    n -> 3 * SMALL.term(a, n) - 2 * PRIMES.term(b, n));
                int count = x.count();
                made(x, count, x.combine(first, second, 0, 0), a + b, 0, n -> 0);
            }
        }
    }

    private void productOfOneSeries() {
        check.sentence("Promise 6: j may be k");
        for (int r = 0; r <= TOP; r++) {
            int a = r;
            RecurrentSeries x = new RecurrentSeries();
            int k = SMALL.make(x, a);
            made(x, k + 1, x.product(k, k), 2 * a, 2 * a, n -> convolved(a, a, SMALL, SMALL, n));
        }
    }

    private void boundOfProduct() {
        check.sentence("Promise 6: Bound: the sum of the orders");
        for (int i = 0; i <= TOP; i++) {
            for (int j = 0; j <= TOP; j++) {
                int a = i;
                int b = j;
                RecurrentSeries x = new RecurrentSeries();
                int first = SMALL.make(x, a);
                int second = PRIMES.make(x, b);
                made(x, second + 1, x.product(first, second), a + b, a == 0 || b == 0 ? 0 : a + b,
                    n -> convolved(a, b, SMALL, PRIMES, n));
            }
        }
    }

    private void pairwiseOfOneSeries() {
        check.sentence("Promise 7: j may be k");
        for (int r = 0; r <= TOP; r++) {
            int a = r;
            Set<Long> ratios = new HashSet<>();
            for (int i = 0; i < a; i++) {
                for (int j = 0; j < a; j++) {
                    ratios.add(SMALL.ratio(i) * SMALL.ratio(j));
                }
            }
            RecurrentSeries x = new RecurrentSeries();
            int k = SMALL.make(x, a);
            made(x, k + 1, x.pairwise(k, k), a * a, ratios.size(), n -> SMALL.term(a, n) * SMALL.term(a, n));
        }
    }

    private void boundOfPairwise() {
        check.sentence("Promise 7: Bound: the orders multiplied");
        for (int i = 1; i <= TOP; i++) {
            for (int j = 1; j <= TOP; j++) {
                int a = i;
                int b = j;
                RecurrentSeries x = new RecurrentSeries();
                int first = SMALL.make(x, a);
                int second = PRIMES.make(x, b);
                made(x, second + 1, x.pairwise(first, second), a * b, a * b,
                    n -> SMALL.term(a, n) * PRIMES.term(b, n));
            }
        }
    }

    private void pairwiseOfTheOrderZero() {
        check.sentence("Promise 7: Bound: the orders multiplied; one of them is 0");
        for (int r = 0; r <= TOP; r++) {
            RecurrentSeries x = new RecurrentSeries();
            int k = SMALL.make(x, r);
            int zero = Make.zero(x);
            made(x, zero + 1, x.pairwise(k, zero), 0, 0, n -> 0);
            made(x, zero + 2, x.pairwise(zero, k), 0, 0, n -> 0);
        }
    }

    private void boundOfDerivative() {
        check.sentence("Promise 8: Bound: twice the order");
        for (int r = 0; r <= TOP; r++) {
            int a = r;
            RecurrentSeries x = new RecurrentSeries();
            int k = SMALL.make(x, a);
            made(x, k + 1, x.derivative(k), 2 * a, 2 * a, n -> (n + 1) * SMALL.term(a, n + 1));
        }
    }

    private void boundOfTail() {
        check.sentence("Promise 9: Bound: the order");
        for (int r = 0; r <= TOP; r++) {
            int a = r;
            RecurrentSeries x = new RecurrentSeries();
            int k = SMALL.make(x, a);
            made(x, k + 1, x.tail(k), a, a, n -> SMALL.term(a, n + 1));
        }
    }

    private void boundOfDelay() {
        check.sentence("Promise 10: Bound: the order plus 1");
        for (int r = 0; r <= TOP; r++) {
            int a = r;
            RecurrentSeries x = new RecurrentSeries();
            int k = SMALL.make(x, a);
            made(x, k + 1, x.delay(k), a + 1, a == 0 ? 0 : a + 1, n -> n == 0 ? 0 : SMALL.term(a, n - 1));
        }
    }

    private void boundOfSums() {
        check.sentence("Promise 11: Bound: the order plus 1");
        for (int r = 0; r <= TOP; r++) {
            int a = r;
            RecurrentSeries x = new RecurrentSeries();
            int k = SMALL.make(x, a);
            made(x, k + 1, x.sums(k), a + 1, a == 0 ? 0 : a + 1, n -> {
                long sum = 0;
                for (int i = 0; i <= n; i++) {
                    sum += SMALL.term(a, i);
                }
                return sum;
            });
        }
    }

    private void stepOfSection() {
        check.sentence("Promise 12: m is 1 .. 24");
        for (int step = -3; step <= 28; step++) {
            int m = step;
            RecurrentSeries x = new RecurrentSeries();
            Make.geometric(x, 3);
            if (m < 1 || m > 24) {
                check.due("section by " + m, x.section(0, m, 5), BAD);
                check.due("count() after BAD", x.count(), 1);
            } else {
                made(x, 1, x.section(0, m, 5), 1, 1, n -> Modular.power(3, m * n + 5));
            }
        }
        for (int m : new int[] {Integer.MIN_VALUE, Integer.MAX_VALUE, 256, 257, 65536 + 1, -24}) {
            Twins.refused(check, "section by " + m, x -> Make.geometric(x, 3), x -> x.section(0, m, 5), BAD);
            Twins.refused(check, "section of 0 by " + m, x -> Make.zero(x), x -> x.section(0, m, 5), BAD);
        }
    }

    private void startOfSection() {
        check.sentence("Promise 12: i is 0 .. 1000");
        for (int start = -5; start <= 1005; start++) {
            int i = start;
            RecurrentSeries x = new RecurrentSeries();
            Make.geometric(x, 3);
            if (i < 0 || i > 1000) {
                check.due("section from " + i, x.section(0, 24, i), BAD);
                check.due("count() after BAD", x.count(), 1);
            } else {
                made(x, 1, x.section(0, 24, i), 1, 1, n -> Modular.power(3, 24 * n + i));
            }
        }
        for (int i : new int[] {Integer.MIN_VALUE, Integer.MAX_VALUE, 65536, -1000}) {
            Twins.refused(check, "section from " + i, x -> Make.geometric(x, 3), x -> x.section(0, 1, i), BAD);
            Twins.refused(check, "section of 0 from " + i, x -> Make.zero(x), x -> x.section(0, 1, i), BAD);
        }
    }

    private void boundOfSection() {
        check.sentence("Promise 12: Bound: the order");
        for (int r = 0; r <= TOP; r++) {
            for (int m = 1; m <= 24; m++) {
                sectionFrom(r, m, 0);
                sectionFrom(r, m, 1000);
            }
        }
    }

    private void sectionFrom(int r, int m, int i) {
        Set<Long> ratios = new HashSet<>();
        for (int k = 0; k < r; k++) {
            ratios.add(Modular.power(SMALL.ratio(k), m));
        }
        RecurrentSeries x = new RecurrentSeries();
        int k = SMALL.make(x, r);
        int answer = x.section(k, m, i);
        check.due("section of the order " + r, answer, k + 1);
        check.due("its order", x.order(answer), ratios.size());
        for (int n = 0; n <= 2 * r; n++) {
            check.due("its term " + n, x.term(answer, n), x.term(k, (long) m * n + i));
        }
    }

    private void stepOfSpread() {
        check.sentence("Promise 13: m is 1 .. 24");
        for (int step = -3; step <= 28; step++) {
            int m = step;
            RecurrentSeries x = new RecurrentSeries();
            Make.geometric(x, 3);
            if (m < 1 || m > 24) {
                check.due("spread by " + m, x.spread(0, m), BAD);
                check.due("count() after BAD", x.count(), 1);
            } else {
                made(x, 1, x.spread(0, m), m, m, n -> n % m == 0 ? Modular.power(3, n / m) : 0);
            }
        }
        for (int m : new int[] {0, 25, Integer.MIN_VALUE, Integer.MAX_VALUE, 256, 257, 65536 + 1, -24, 1 << 30}) {
            Twins.refused(check, "spread by " + m, x -> SMALL.make(x, 4), x -> x.spread(0, m), BAD);
            Twins.refused(check, "spread of 0 by " + m, x -> Make.zero(x), x -> x.spread(0, m), BAD);
        }
    }

    private void boundOfSpread() {
        check.sentence("Promise 13: Bound: m times the order");
        for (int r = 0; r <= TOP; r++) {
            for (int step = 1; step <= 24; step++) {
                int a = r;
                int m = step;
                RecurrentSeries x = new RecurrentSeries();
                int k = SMALL.make(x, a);
                made(x, k + 1, x.spread(k, m), m * a, m * a, n -> n % m == 0 ? SMALL.term(a, n / m) : 0);
            }
        }
    }

    /** The series with 1 at one place alone: its order may be far below the bound of what is made. */
    private void boundsOfSeriesThatEnd() {
        check.sentence("Terms: the order of what it makes is never above it (the bound decides, not the order)");
        for (int r = 1; r <= TOP; r++) {
            int at = r - 1;
            RecurrentSeries x = new RecurrentSeries();
            int k = Make.unit(x, at);
            check.due("order of a unit", x.order(k), r);
            int count = k + 1;
            made(x, count, x.product(k, k), 2 * r, 2 * r - 1, n -> n == 2 * at ? 1 : 0);
            forgetTo(x, count);
            made(x, count, x.pairwise(k, k), r * r, r, n -> n == at ? 1 : 0);
            forgetTo(x, count);
            made(x, count, x.derivative(k), 2 * r, at, n -> n == at - 1 ? at : 0);
            forgetTo(x, count);
            made(x, count, x.tail(k), r, at, n -> n == at - 1 ? 1 : 0);
            forgetTo(x, count);
            made(x, count, x.delay(k), r + 1, r + 1, n -> n == at + 1 ? 1 : 0);
            forgetTo(x, count);
            made(x, count, x.sums(k), r + 1, r, n -> n >= at ? 1 : 0);
            forgetTo(x, count);
            made(x, count, x.section(k, 2, at % 2), r, at / 2 + 1, n -> n == at / 2 ? 1 : 0);
            forgetTo(x, count);
            made(x, count, x.spread(k, 2), 2 * r, 2 * at + 1, n -> n == 2 * at ? 1 : 0);
            forgetTo(x, count);
            made(x, count, x.combine(k, k, 1, -1), 2 * r, 0, n -> 0);
        }
    }

    private static void forgetTo(RecurrentSeries x, int count) {
        while (x.count() > count) {
            x.forget();
        }
    }
}
