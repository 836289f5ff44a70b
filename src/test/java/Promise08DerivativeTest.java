public final class Promise08DerivativeTest {
    public static void main(String[] args) {
        Check check = new Check("promise 8, derivative");
        ordinary(check);
        edges(check);
        longest(check);
        Refusals.badThenFull(check, (x, j, k) -> x.derivative(j), false);
        check.end();
    }

    private static void ordinary(Check check) {
        RecurrentSeries x = new RecurrentSeries();
        Make.fibonacci(x);
        check.due("derivative(0)", x.derivative(0), 1);
        check.terms(x, 1, 1, 2, 6, 12, 25, 48);
        check.recurrence(x, 1, 2, 1, -2, -1);
        Make.geometric(x, 1);
        check.due("derivative(2)", x.derivative(2), 3);
        check.recurrence(x, 3, 2, -1);
        check.due("term(3, P - 1)", x.term(3, Modular.P - 1), 0);
        check.due("term(3, P)", x.term(3, Modular.P), 1);
        check.due("derivative(3)", x.derivative(3), 4);
        check.terms(x, 4, 2, 6, 12, 20);
        check.recurrence(x, 4, 3, -3, 1);
    }

    private static void edges(Check check) {
        RecurrentSeries x = new RecurrentSeries();
        Make.zero(x);
        check.due("derivative of 0", x.derivative(0), 1);
        check.recurrence(x, 1);
        Make.one(x);
        check.due("derivative of 1, 0, 0, ..", x.derivative(2), 3);
        check.recurrence(x, 3);
        Make.series(x, Make.row(0, 0, 0, 0), 4, 3, 2, 1);
        check.due("derivative of one that ends", x.derivative(4), 5);
        check.terms(x, 5, 3, 4, 3, 0);
        check.recurrence(x, 5, 0, 0, 0);
    }

    private static void longest(Check check) {
        RecurrentSeries x = new RecurrentSeries();
        Make.everyTwelfth(x);
        check.due("derivative of 12", x.derivative(0), 1);
        check.due("order(1)", x.order(1), 24);
        check.due("term(1, 1199)", x.term(1, 1199), 1200);
        check.due("term(1, 1200)", x.term(1, 1200), 0);
        Make.geometric(x, 2);
        x.combine(0, 2, 1, 1);
        check.due("order(3)", x.order(3), 13);
        Refusals.fullThenLong(check, (y, j, k) -> y.derivative(j), x, 3, 3);
        Make.unit(x, 12);
        check.due("derivative of order 13 that ends", x.derivative(x.count() - 1), RecurrentSeries.LONG);
    }
}
