public final class Promise06ProductTest {
    public static void main(String[] args) {
        Check check = new Check("promise 6, product");
        ordinary(check);
        edges(check);
        longest(check);
        Refusals.badThenFull(check, (x, j, k) -> x.product(j, k), true);
        check.end();
    }

    private static void ordinary(Check check) {
        RecurrentSeries x = new RecurrentSeries();
        Make.geometric(x, 2);
        Make.geometric(x, 3);
        check.due("product(0, 1)", x.product(0, 1), 2);
        check.terms(x, 2, 1, 5, 19, 65, 211);
        check.recurrence(x, 2, 5, -6);
        check.due("product(0, 0)", x.product(0, 0), 3);
        check.terms(x, 3, 1, 4, 12, 32, 80);
        check.recurrence(x, 3, 4, -4);
        check.due("product(1, 0)", x.product(1, 0), 4);
        check.due("differ(2, 4)", x.differ(2, 4), -1);
        Make.series(x, Make.row(-1), -1);
        check.due("product(5, 5)", x.product(5, 5), 6);
        check.terms(x, 6, 1, -2, 3, -4);
    }

    private static void edges(Check check) {
        RecurrentSeries x = new RecurrentSeries();
        Make.geometric(x, 2);
        Make.series(x, Make.row(0, 0), 1, -2);
        check.due("product that ends", x.product(0, 1), 2);
        check.recurrence(x, 2, 0);
        check.terms(x, 2, 1, 0, 0, 0);
        check.due("product with 1, 0, 0, ..", x.product(0, 2), 3);
        check.due("differ(0, 3)", x.differ(0, 3), -1);
        Make.zero(x);
        check.due("product with 0", x.product(0, 4), 5);
        check.recurrence(x, 5);
        check.due("product of 0 with 0", x.product(4, 5), 6);
        check.recurrence(x, 6);
        check.due("product of two that end", x.product(1, 1), 7);
        check.recurrence(x, 7, 0, 0, 0);
        check.terms(x, 7, 1, -4, 4, 0);
    }

    private static void longest(Check check) {
        RecurrentSeries x = new RecurrentSeries();
        Make.everyTwelfth(x);
        check.due("product of 12 and 12", x.product(0, 0), 1);
        check.due("order(1)", x.order(1), 24);
        check.due("coefficient(1, 12)", x.coefficient(1, 12), 2);
        check.due("coefficient(1, 24)", x.coefficient(1, 24), Modular.P - 1);
        check.due("term(1, 1200)", x.term(1, 1200), 101);
        Make.one(x);
        Refusals.fullThenLong(check, (y, j, k) -> y.product(j, k), x, 1, 2);
        Refusals.fullThenLong(check, (y, j, k) -> y.product(j, k), x, 2, 1);
        Make.zero(x);
        check.due("product of 24 and 0", x.product(1, 3), 4);
    }
}
