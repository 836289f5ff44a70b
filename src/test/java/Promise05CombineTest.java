public final class Promise05CombineTest {
    public static void main(String[] args) {
        Check check = new Check("promise 5, combine");
        ordinary(check);
        cancelled(check);
        longest(check);
        Refusals.badThenFull(check, (x, j, k) -> x.combine(j, k, 1, 1), true);
        check.end();
    }

    private static void ordinary(Check check) {
        RecurrentSeries x = new RecurrentSeries();
        Make.geometric(x, 2);
        Make.geometric(x, 3);
        check.due("combine(0, 1, 5, -2)", x.combine(0, 1, 5, -2), 2);
        check.terms(x, 2, 3, 4, 2, -14, -82);
        check.recurrence(x, 2, 5, -6);
        check.due("combine(1, 0, 5, -2)", x.combine(1, 0, 5, -2), 3);
        check.terms(x, 3, 3, 11, 37);
        check.due("combine with numbers past P", x.combine(0, 1, Integer.MIN_VALUE, Integer.MAX_VALUE), 4);
        check.terms(x, 4, -1, -2, -4);
        check.recurrence(x, 4, 2);
        check.due("combine of a series with itself", x.combine(0, 0, 2, 3), 5);
        check.terms(x, 5, 5, 10, 20);
        check.recurrence(x, 5, 2);
        check.terms(x, 0, 1, 2, 4);
        check.terms(x, 1, 1, 3, 9);
        Make.one(x);
        check.due("combine with 1, 0, 0, ..", x.combine(0, 6, 1, 1), 7);
        check.recurrence(x, 7, 2, 0);
    }

    private static void cancelled(Check check) {
        RecurrentSeries x = new RecurrentSeries();
        Make.fibonacci(x);
        check.due("combine(0, 0, 1, -1)", x.combine(0, 0, 1, -1), 1);
        check.recurrence(x, 1);
        check.due("combine(0, 0, 0, P)", x.combine(0, 0, 0, 2147483647), 2);
        check.recurrence(x, 2);
        check.due("combine of two of order 0", x.combine(1, 2, 3, 4), 3);
        check.recurrence(x, 3);
        check.due("combine(0, 1, 1, 9)", x.combine(0, 1, 1, 9), 4);
        check.due("differ(0, 4)", x.differ(0, 4), -1);
    }

    private static void longest(Check check) {
        RecurrentSeries x = new RecurrentSeries();
        Make.everyTwelfth(x);
        long[] ratios = {2, 3, 4, 5, 6, 7, 8, 9, 10, 11, 12, 13};
        long[] weights = {1, 1, 1, 1, 1, 1, 1, 1, 1, 1, 1, 1};
        Make.powers(x, ratios, weights);
        check.due("combine of 12 and 12", x.combine(0, 1, 1, 1), 2);
        check.due("order(2)", x.order(2), 24);
        check.due("term(2, 1200)", x.term(2, 1200), (1 + Make.powerSum(ratios, weights, 1200)) % Modular.P);
        Make.geometric(x, 5);
        Make.zero(x);
        check.due("combine of 24 and 0", x.combine(2, 4, 1, 1), 5);
        Refusals.fullThenLong(check, (y, j, k) -> y.combine(j, k, 1, 1), x, 2, 3);
        Refusals.fullThenLong(check, (y, j, k) -> y.combine(j, k, 1, 1), x, 3, 2);
        check.due("combine(2, 2, 1, -1): the bound decides, not the order", x.combine(2, 2, 1, -1), RecurrentSeries.LONG);
        check.due("combine(2, 3, 1, 0): the bound decides, not the order", x.combine(2, 3, 1, 0), RecurrentSeries.LONG);
    }
}
