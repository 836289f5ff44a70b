public final class Promise09TailTest {
    public static void main(String[] args) {
        Check check = new Check("promise 9, tail");
        RecurrentSeries x = new RecurrentSeries();
        Make.fibonacci(x);
        check.due("tail(0)", x.tail(0), 1);
        check.terms(x, 1, 1, 1, 2, 3, 5);
        check.recurrence(x, 1, 1, 1);
        Make.series(x, Make.row(0, 0), 4, 5);
        check.due("tail of 4, 5, 0, ..", x.tail(2), 3);
        check.recurrence(x, 3, 0);
        check.terms(x, 3, 5, 0, 0);
        check.due("tail of 5, 0, ..", x.tail(3), 4);
        check.recurrence(x, 4);
        check.due("tail of 0", x.tail(4), 5);
        check.recurrence(x, 5);
        Make.series(x, Make.row(2, 0), 7, 1);
        check.due("tail of 7, 1, 2, 4, ..", x.tail(6), 7);
        check.recurrence(x, 7, 2);
        longest(check);
        Refusals.badThenFull(check, (y, j, k) -> y.tail(j), false);
        check.end();
    }

    private static void longest(Check check) {
        RecurrentSeries x = new RecurrentSeries();
        Make.everyTwelfth(x);
        x.product(0, 0);
        check.due("tail of 24", x.tail(1), 2);
        check.due("order(2)", x.order(2), 24);
        check.due("term(2, 1199)", x.term(2, 1199), 101);
        check.due("term(2, 1200)", x.term(2, 1200), 0);
    }
}
