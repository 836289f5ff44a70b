public final class Promise13SpreadTest {
    public static void main(String[] args) {
        Check check = new Check("promise 13, spread");
        ordinary(check);
        longest(check);
        badArguments(check);
        Refusals.badThenFull(check, (x, j, k) -> x.spread(j, 2), false);
        check.end();
    }

    private static void ordinary(Check check) {
        RecurrentSeries x = new RecurrentSeries();
        Make.fibonacci(x);
        check.due("spread(0, 2)", x.spread(0, 2), 1);
        check.terms(x, 1, 0, 0, 1, 0, 1, 0, 2, 0, 3, 0, 5);
        check.recurrence(x, 1, 0, 1, 0, 1);
        check.due("spread(0, 1)", x.spread(0, 1), 2);
        check.due("differ(0, 2)", x.differ(0, 2), -1);
        Make.one(x);
        check.due("spread(3, 24)", x.spread(3, 24), 4);
        check.recurrence(x, 4, 0);
        Make.series(x, Make.row(0, 0), 0, 1);
        check.due("spread(5, 3)", x.spread(5, 3), 6);
        check.recurrence(x, 6, 0, 0, 0, 0);
        Make.zero(x);
        check.due("spread(7, 24)", x.spread(7, 24), 8);
        check.recurrence(x, 8);
        Make.series(x, Make.row(2), 5);
        Make.series(x, Make.row(3), 9);
        check.due("spread(9, 2)", x.spread(9, 2), 11);
        check.terms(x, 11, 5, 0, 10, 0, 20);
    }

    private static void longest(Check check) {
        RecurrentSeries x = new RecurrentSeries();
        Make.geometric(x, 3);
        check.due("spread(0, 24)", x.spread(0, 24), 1);
        check.due("order(1)", x.order(1), 24);
        check.due("coefficient(1, 24)", x.coefficient(1, 24), 3);
        check.due("coefficient(1, 23)", x.coefficient(1, 23), 0);
        check.due("term(1, 240)", x.term(1, 240), 59049);
        check.due("term(1, 241)", x.term(1, 241), 0);
        Make.fibonacci(x);
        check.due("spread(2, 12)", x.spread(2, 12), 3);
        check.due("order(3)", x.order(3), 24);
        Refusals.fullThenLong(check, (y, j, k) -> y.spread(j, 13), x, 2, 2);
        Refusals.fullThenLong(check, (y, j, k) -> y.spread(j, 24), x, 3, 3);
        Make.series(x, Make.row(0, 0), 1, 1);
        check.due("spread(4, 13): the bound decides, not the order", x.spread(4, 13), RecurrentSeries.LONG);
        check.due("spread(3, 1)", x.spread(3, 1), 5);
    }

    private static void badArguments(Check check) {
        RecurrentSeries x = new RecurrentSeries();
        Make.fibonacci(x);
        int[] badSteps = {0, -1, 25, Integer.MIN_VALUE, Integer.MAX_VALUE, 1 << 30};
        for (int m : badSteps) {
            check.due("spread(0, " + m + ")", x.spread(0, m), RecurrentSeries.BAD);
        }
        check.due("count() after BAD", x.count(), 1);
        Make.fillList(x);
        check.due("spread(0, 25) in the full list", x.spread(0, 25), RecurrentSeries.BAD);
        check.due("spread(0, 24) in the full list", x.spread(0, 24), RecurrentSeries.FULL);
    }
}
