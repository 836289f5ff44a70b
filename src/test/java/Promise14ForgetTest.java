public final class Promise14ForgetTest {
    public static void main(String[] args) {
        Check check = new Check("promise 14, forget");
        RecurrentSeries x = new RecurrentSeries();
        check.due("forget() of the empty list", x.forget(), false);
        check.due("count()", x.count(), 0);
        Make.geometric(x, 2);
        Make.geometric(x, 3);
        Make.give(x, 4, 5);
        check.due("forget()", x.forget(), true);
        check.due("count()", x.count(), 1);
        check.due("order(1)", x.order(1), RecurrentSeries.BAD);
        check.terms(x, 0, 1, 2, 4);
        check.due("clear() after forget", x.clear(), 2);
        Make.series(x, Make.row(1, 1), 0, 1);
        check.recurrence(x, 1, 1, 1);
        Make.series(x, Make.row(7), 1);
        check.due("forget()", x.forget(), true);
        check.due("forget()", x.forget(), true);
        check.due("forget() of the last", x.forget(), true);
        check.due("forget() of none", x.forget(), false);
        check.due("count()", x.count(), 0);
        check.due("a zero series in an old place", Make.zero(x), 0);
        check.recurrence(x, 0);
        check.terms(x, 0, 0, 0, 0);
        check.end();
    }
}
