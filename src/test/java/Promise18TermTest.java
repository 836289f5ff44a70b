public final class Promise18TermTest {
    private static final long FARTHEST = Long.MAX_VALUE;

    public static void main(String[] args) {
        Check check = new Check("promise 18, term");
        ordinary(check);
        farTerms(check);
        seriesThatEnd(check);
        longest(check);
        badArguments(check);
        check.end();
    }

    private static void ordinary(Check check) {
        RecurrentSeries x = new RecurrentSeries();
        Make.fibonacci(x);
        long a = 0;
        long b = 1;
        for (int n = 0; n <= 200; n++) {
            check.due("term(0, " + n + ")", x.term(0, n), a);
            long next = (a + b) % Modular.P;
            a = b;
            b = next;
        }
        check.due("order(0) after the terms", x.order(0), 2);
    }

    private static void farTerms(Check check) {
        RecurrentSeries x = new RecurrentSeries();
        Make.geometric(x, 3);
        Make.series(x, Make.row(2, -1), 5, 12);
        long[] places = {0, 1, 63, 64, 65, 87, 88, Integer.MAX_VALUE, 1L << 31, 1L << 32, (1L << 32) + 1,
            1L << 62, FARTHEST - 1, FARTHEST};
        for (long n : places) {
            check.due("term(0, " + n + ")", x.term(0, n), Modular.power(3, n));
            long want = (5 + 7 * (n % Modular.P)) % Modular.P;
            check.due("term(1, " + n + ")", x.term(1, n), want);
        }
    }

    private static void seriesThatEnd(Check check) {
        RecurrentSeries x = new RecurrentSeries();
        Make.zero(x);
        check.due("term(0, 0)", x.term(0, 0), 0);
        check.due("term(0, far)", x.term(0, FARTHEST), 0);
        Make.series(x, Make.row(0, 0, 0), 7, 8, 9);
        check.terms(x, 1, 7, 8, 9, 0, 0);
        check.due("term(1, far)", x.term(1, FARTHEST), 0);
        check.due("term(0, 0) after another", x.term(0, 0), 0);
        Make.series(x, Make.row(1, 0, 0), 7, 8, 9);
        check.terms(x, 2, 7, 8, 9, 9, 9);
        check.due("term(2, far)", x.term(2, FARTHEST), 9);
    }

    private static void longest(Check check) {
        RecurrentSeries x = new RecurrentSeries();
        long[] low = {2, 3, 4, 5, 6, 7, 8, 9, 10, 11, 12, 2147483646};
        long[] high = {2147483640, 2147483641, 2147483642, 2147483643, 2147483644, 1073741824,
            536870912, 1073741823, 99991, 99992, 99993, 99994};
        long[] weights = {2147483646, 2, 2147483645, 4, 5, 6, 7, 8, 9, 10, 11, 12};
        Make.powers(x, low, weights);
        Make.powers(x, high, weights);
        x.combine(0, 1, 1, 1);
        check.due("order(2)", x.order(2), 24);
        long[] places = {0, 23, 24, 47, 48, 63, 64, 1000, 1L << 33, FARTHEST};
        for (long n : places) {
            long want = (Make.powerSum(low, weights, n) + Make.powerSum(high, weights, n)) % Modular.P;
            check.due("term(2, " + n + ")", x.term(2, n), want);
        }
    }

    private static void badArguments(Check check) {
        RecurrentSeries x = new RecurrentSeries();
        check.due("term(0, 0) of the empty list", x.term(0, 0), RecurrentSeries.BAD);
        Make.fibonacci(x);
        check.due("term(0, -1)", x.term(0, -1), RecurrentSeries.BAD);
        check.due("term(0, least)", x.term(0, Long.MIN_VALUE), RecurrentSeries.BAD);
        check.due("term(0, -2^32)", x.term(0, -(1L << 32)), RecurrentSeries.BAD);
        int[] notListed = {-1, 1, 20, Integer.MIN_VALUE, Integer.MAX_VALUE};
        for (int k : notListed) {
            check.due("term(" + k + ", 0)", x.term(k, 0), RecurrentSeries.BAD);
        }
    }
}
