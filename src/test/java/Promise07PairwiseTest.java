public final class Promise07PairwiseTest {
    public static void main(String[] args) {
        Check check = new Check("promise 7, pairwise");
        ordinary(check);
        edges(check);
        longest(check);
        Refusals.badThenFull(check, (x, j, k) -> x.pairwise(j, k), true);
        check.end();
    }

    private static void ordinary(Check check) {
        RecurrentSeries x = new RecurrentSeries();
        Make.fibonacci(x);
        check.due("pairwise(0, 0)", x.pairwise(0, 0), 1);
        check.terms(x, 1, 0, 1, 1, 4, 9, 25, 64);
        check.recurrence(x, 1, 2, 2, -1);
        Make.geometric(x, -2);
        check.due("pairwise(0, 2)", x.pairwise(0, 2), 3);
        check.terms(x, 3, 0, -2, 4, -16, 48);
        check.recurrence(x, 3, -2, 4);
        check.due("pairwise(2, 0)", x.pairwise(2, 0), 4);
        check.due("differ(3, 4)", x.differ(3, 4), -1);
        Make.geometric(x, 3);
        check.due("pairwise(2, 5)", x.pairwise(2, 5), 6);
        check.recurrence(x, 6, -6);
    }

    private static void edges(Check check) {
        RecurrentSeries x = new RecurrentSeries();
        Make.fibonacci(x);
        Make.series(x, Make.row(0, 0, 0), 5, 6, 7);
        check.due("pairwise with one that ends", x.pairwise(0, 1), 2);
        check.terms(x, 2, 0, 6, 7, 0, 0);
        check.recurrence(x, 2, 0, 0, 0);
        Make.series(x, Make.row(0, 1), 1, 0);
        Make.series(x, Make.row(0, 1), 0, 1);
        check.due("pairwise of disjoint ones", x.pairwise(3, 4), 5);
        check.recurrence(x, 5);
        check.due("pairwise with 0", x.pairwise(5, 0), 6);
        check.recurrence(x, 6);
    }

    private static void longest(Check check) {
        RecurrentSeries x = new RecurrentSeries();
        Make.everyTwelfth(x);
        Make.fibonacci(x);
        check.due("pairwise of 12 and 2", x.pairwise(0, 1), 2);
        check.due("order(2)", x.order(2), 24);
        check.terms(x, 2, 0, 0);
        check.due("term(2, 12)", x.term(2, 12), 144);
        check.due("term(2, 24)", x.term(2, 24), 46368);
        Make.zero(x);
        check.due("pairwise of 24 and 0", x.pairwise(2, 3), 4);
        Make.geometric(x, 2);
        check.due("pairwise of 24 and 1", x.pairwise(2, 5), 6);
        check.due("order(6)", x.order(6), 24);
        Refusals.fullThenLong(check, (y, j, k) -> y.pairwise(j, k), x, 2, 1);
        long[] five = {2, 3, 4, 5, 6};
        Make.powers(x, five, new long[] {1, 1, 1, 1, 1});
        Refusals.fullThenLong(check, (y, j, k) -> y.pairwise(j, k), x, 7, 7);
        check.due("pairwise of 12 and 12", x.pairwise(0, 0), RecurrentSeries.LONG);
        Make.powers(x, new long[] {1, 2, 3, 4}, new long[] {1, 1, 1, 1});
        Make.powers(x, new long[] {5, 7, 11, 13, 17, 19}, new long[] {1, 1, 1, 1, 1, 1});
        check.due("pairwise of 4 and 6", x.pairwise(8, 9), 10);
        check.due("order(10)", x.order(10), 24);
    }
}
