public final class Promise12SectionTest {
    public static void main(String[] args) {
        Check check = new Check("promise 12, section");
        ordinary(check);
        edges(check);
        longest(check);
        badArguments(check);
        Refusals.badThenFull(check, (x, j, k) -> x.section(j, 2, 1), false);
        check.end();
    }

    private static void ordinary(Check check) {
        RecurrentSeries x = new RecurrentSeries();
        Make.fibonacci(x);
        check.due("section(0, 2, 1)", x.section(0, 2, 1), 1);
        check.terms(x, 1, 1, 2, 5, 13, 34);
        check.recurrence(x, 1, 3, -1);
        check.due("section(0, 3, 0)", x.section(0, 3, 0), 2);
        check.terms(x, 2, 0, 2, 8, 34);
        check.recurrence(x, 2, 4, 1);
        check.due("section(0, 1, 0)", x.section(0, 1, 0), 3);
        check.due("differ(0, 3)", x.differ(0, 3), -1);
        check.due("section(0, 1, 5)", x.section(0, 1, 5), 4);
        check.terms(x, 4, 5, 8, 13);
    }

    private static void edges(Check check) {
        RecurrentSeries x = new RecurrentSeries();
        Make.geometric(x, -1);
        check.due("section(0, 2, 1)", x.section(0, 2, 1), 1);
        check.recurrence(x, 1, 1);
        check.terms(x, 1, -1, -1);
        Make.series(x, Make.row(0, 0, 0, 0), 1, 2, 3, 4);
        check.due("section(2, 2, 1)", x.section(2, 2, 1), 3);
        check.terms(x, 3, 2, 4, 0);
        check.recurrence(x, 3, 0, 0);
        check.due("section(2, 24, 3)", x.section(2, 24, 3), 4);
        check.terms(x, 4, 4, 0, 0);
        check.recurrence(x, 4, 0);
        check.due("section(2, 1, 4)", x.section(2, 1, 4), 5);
        check.recurrence(x, 5);
        check.due("section(5, 24, 1000)", x.section(5, 24, 1000), 6);
        check.recurrence(x, 6);
        check.due("section(5, 1, 0)", x.section(5, 1, 0), 7);
        check.recurrence(x, 7);
        Make.series(x, Make.row(0, 1), 1, 2);
        check.due("section(8, 2, 0)", x.section(8, 2, 0), 9);
        check.recurrence(x, 9, 1);
    }

    private static void longest(Check check) {
        RecurrentSeries x = new RecurrentSeries();
        long[] low = {2, 3, 4, 5, 6, 7, 8, 9, 10, 11, 12, 13};
        long[] high = {14, 15, 16, 17, 18, 19, 20, 21, 22, 23, 24, 25};
        long[] weights = {1, 2, 3, 4, 5, 6, 7, 8, 9, 10, 11, 12};
        Make.powers(x, low, weights);
        Make.powers(x, high, weights);
        x.combine(0, 1, 1, 1);
        check.due("section(2, 24, 1000)", x.section(2, 24, 1000), 3);
        check.due("order(3)", x.order(3), 24);
        long[] places = {0, 1, 47, 48, 100, 123456789};
        for (long n : places) {
            long at = 24 * n + 1000;
            long want = (Make.powerSum(low, weights, at) + Make.powerSum(high, weights, at)) % Modular.P;
            check.due("term(3, " + n + ")", x.term(3, n), want);
        }
    }

    private static void badArguments(Check check) {
        RecurrentSeries x = new RecurrentSeries();
        Make.fibonacci(x);
        Make.give(x, 1);
        int[] badSteps = {0, -1, 25, Integer.MIN_VALUE, Integer.MAX_VALUE};
        for (int m : badSteps) {
            check.due("section(0, " + m + ", 0)", x.section(0, m, 0), RecurrentSeries.BAD);
        }
        int[] badStarts = {-1, 1001, Integer.MIN_VALUE, Integer.MAX_VALUE};
        for (int i : badStarts) {
            check.due("section(0, 1, " + i + ")", x.section(0, 1, i), RecurrentSeries.BAD);
        }
        check.due("count() after BAD", x.count(), 1);
        check.due("clear() after BAD", x.clear(), 1);
        Make.fillList(x);
        check.due("section(0, 25, 0) in the full list", x.section(0, 25, 0), RecurrentSeries.BAD);
        check.due("section(0, 1, 1001) in the full list", x.section(0, 1, 1001), RecurrentSeries.BAD);
        check.due("section(0, 24, 1000) in the full list", x.section(0, 24, 1000), RecurrentSeries.FULL);
    }
}
