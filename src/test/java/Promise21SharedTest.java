public final class Promise21SharedTest {
    public static void main(String[] args) {
        Check check = new Check("promise 21, shared");
        ordinary(check);
        zerosAtTheEnd(check);
        longest(check);
        notListed(check);
        check.end();
    }

    private static void ordinary(Check check) {
        RecurrentSeries x = new RecurrentSeries();
        Make.geometric(x, 2);
        Make.geometric(x, 3);
        x.combine(0, 1, 1, 1);
        x.product(0, 0);
        Make.zero(x);
        int[][] want = {
            {1, 2, 2, 2, 1},
            {2, 1, 2, 3, 1},
            {2, 2, 2, 3, 2},
            {2, 3, 3, 2, 2},
            {1, 1, 2, 2, 0}};
        for (int j = 0; j < 5; j++) {
            for (int k = 0; k < 5; k++) {
                check.due("shared(" + j + ", " + k + ")", x.shared(j, k), want[j][k]);
            }
        }
        Make.series(x, Make.row(1, 1), 0, 1);
        Make.series(x, Make.row(1, 1), 2, 1);
        check.due("shared of Fibonacci's and Lucas's", x.shared(5, 6), 2);
    }

    private static void zerosAtTheEnd(Check check) {
        RecurrentSeries x = new RecurrentSeries();
        Make.series(x, Make.row(0, 0, 0), 1, 1, 1);
        Make.series(x, Make.row(0), 4);
        Make.series(x, Make.row(2, 0, 0), 7, 1, 1);
        Make.geometric(x, 2);
        check.due("shared(0, 1)", x.shared(0, 1), 3);
        check.due("shared(0, 2)", x.shared(0, 2), 4);
        check.due("shared(1, 2)", x.shared(1, 2), 3);
        check.due("shared(2, 3)", x.shared(2, 3), 3);
        check.due("shared(0, 3)", x.shared(0, 3), 4);
        check.due("shared(3, 1)", x.shared(3, 1), 2);
    }

    private static void longest(Check check) {
        RecurrentSeries x = new RecurrentSeries();
        long[] weights = {1, 1, 1, 1, 1, 1, 1, 1, 1, 1, 1, 1};
        for (int part = 0; part < 4; part++) {
            long[] ratios = new long[12];
            for (int i = 0; i < 12; i++) {
                ratios[i] = 12 * part + i + 2;
            }
            Make.powers(x, ratios, weights);
        }
        x.combine(0, 1, 1, 1);
        x.combine(2, 3, 1, 1);
        x.combine(1, 2, 1, 1);
        check.due("shared of 24 and 24 with none in common", x.shared(4, 5), 48);
        check.due("shared of 24 and 24 with 12 in common", x.shared(4, 6), 36);
        check.due("shared of 24 and itself", x.shared(4, 4), 24);
        check.due("shared of 24 and 12 within", x.shared(1, 4), 24);
        check.due("shared of 24 and 12 outside", x.shared(4, 3), 36);
    }

    private static void notListed(Check check) {
        RecurrentSeries x = new RecurrentSeries();
        check.due("shared(0, 0) of the empty list", x.shared(0, 0), RecurrentSeries.BAD);
        Make.fibonacci(x);
        int[] outside = {-1, 1, 20, Integer.MIN_VALUE, Integer.MAX_VALUE};
        for (int k : outside) {
            check.due("shared(0, " + k + ")", x.shared(0, k), RecurrentSeries.BAD);
            check.due("shared(" + k + ", 0)", x.shared(k, 0), RecurrentSeries.BAD);
        }
    }
}
