public final class Promise17CoefficientTest {
    public static void main(String[] args) {
        Check check = new Check("promise 17, coefficient");
        RecurrentSeries x = new RecurrentSeries();
        Make.series(x, Make.row(-1, 2147483646, -2147483647, 5), 0, 0, 0, 1);
        check.recurrence(x, 0, -1, -1, 0, 5);
        int[] outside = {0, -1, 5, 24, 49, Integer.MIN_VALUE, Integer.MAX_VALUE};
        for (int i : outside) {
            check.due("coefficient(0, " + i + ")", x.coefficient(0, i), RecurrentSeries.BAD);
        }
        Make.series(x, Make.row(2, 0), 7, 1);
        check.recurrence(x, 1, 2, 0);
        Make.zero(x);
        check.due("coefficient(2, 1)", x.coefficient(2, 1), RecurrentSeries.BAD);
        check.due("coefficient(2, 0)", x.coefficient(2, 0), RecurrentSeries.BAD);
        int[] notListed = {-1, 3, 20, Integer.MIN_VALUE, Integer.MAX_VALUE};
        for (int k : notListed) {
            check.due("coefficient(" + k + ", 1)", x.coefficient(k, 1), RecurrentSeries.BAD);
        }
        longest(check);
        check.end();
    }

    private static void longest(Check check) {
        RecurrentSeries x = new RecurrentSeries();
        Make.everyTwelfth(x);
        Make.series(x, Make.row(0, 0, 0, 0, 0, 0, 0, 0, 0, 0, 0, 2), 1, 0, 0, 0, 0, 0, 0, 0, 0, 0, 0, 0);
        x.combine(0, 1, 1, 1);
        for (int i = 1; i <= 24; i++) {
            long want = i == 12 ? 3 : i == 24 ? Modular.P - 2 : 0;
            check.due("coefficient(2, " + i + ")", x.coefficient(2, i), want);
        }
        check.due("coefficient(2, 25)", x.coefficient(2, 25), RecurrentSeries.BAD);
    }
}
