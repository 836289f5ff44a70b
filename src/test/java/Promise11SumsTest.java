public final class Promise11SumsTest {
    public static void main(String[] args) {
        Check check = new Check("promise 11, sums");
        RecurrentSeries x = new RecurrentSeries();
        Make.geometric(x, 1);
        check.due("sums(0)", x.sums(0), 1);
        check.terms(x, 1, 1, 2, 3, 4);
        check.recurrence(x, 1, 2, -1);
        check.due("term(1, P - 1)", x.term(1, Modular.P - 1), 0);
        Make.fibonacci(x);
        check.due("sums(2)", x.sums(2), 3);
        check.terms(x, 3, 0, 1, 2, 4, 7, 12);
        check.recurrence(x, 3, 2, 0, -1);
        Make.series(x, Make.row(0, 0), 1, -1);
        check.due("sums of 1, -1, 0, ..", x.sums(4), 5);
        check.recurrence(x, 5, 0);
        Make.zero(x);
        check.due("sums of 0", x.sums(6), 7);
        check.recurrence(x, 7);
        Make.series(x, Make.row(1), -1);
        check.due("sums of -1, -1, ..", x.sums(8), 9);
        check.terms(x, 9, -1, -2, -3);
        longest(check);
        Refusals.badThenFull(check, (y, j, k) -> y.sums(j), false);
        check.end();
    }

    private static void longest(Check check) {
        RecurrentSeries x = new RecurrentSeries();
        int k = Make.unit(x, 22);
        int made = x.sums(k);
        check.due("sums of 23", made, k + 1);
        check.due("order", x.order(made), 23);
        check.due("coefficient 1", x.coefficient(made, 1), 1);
        check.due("term(21)", x.term(made, 21), 0);
        check.due("term(2^40)", x.term(made, 1L << 40), 1);
        int longest = x.delay(made);
        check.due("order of 24", x.order(longest), 24);
        Refusals.fullThenLong(check, (y, j, i) -> y.sums(j), x, longest, longest);
    }
}
