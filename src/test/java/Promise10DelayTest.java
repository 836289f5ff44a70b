public final class Promise10DelayTest {
    public static void main(String[] args) {
        Check check = new Check("promise 10, delay");
        RecurrentSeries x = new RecurrentSeries();
        Make.geometric(x, 2);
        check.due("delay(0)", x.delay(0), 1);
        check.terms(x, 1, 0, 1, 2, 4, 8);
        check.recurrence(x, 1, 2, 0);
        Make.fibonacci(x);
        x.tail(2);
        check.due("delay that needs no more", x.delay(3), 4);
        check.recurrence(x, 4, 1, 1);
        check.due("differ(2, 4)", x.differ(2, 4), -1);
        Make.zero(x);
        check.due("delay of 0", x.delay(5), 6);
        check.recurrence(x, 6);
        Make.one(x);
        check.due("delay of 1, 0, ..", x.delay(7), 8);
        check.recurrence(x, 8, 0, 0);
        longest(check);
        Refusals.badThenFull(check, (y, j, k) -> y.delay(j), false);
        check.end();
    }

    private static void longest(Check check) {
        RecurrentSeries x = new RecurrentSeries();
        int k = Make.unit(x, 22);
        check.due("order of 23", x.order(k), 23);
        int made = x.delay(k);
        check.due("delay of 23", made, k + 1);
        check.due("order of 24", x.order(made), 24);
        check.due("term(23)", x.term(made, 23), 1);
        check.due("term(22)", x.term(made, 22), 0);
        check.due("term(24)", x.term(made, 24), 0);
        Refusals.fullThenLong(check, (y, j, i) -> y.delay(j), x, made, made);
    }
}
