import java.util.Arrays;

/** The boundary sentences of the promises 14 to 21: forget, and the calls that ask. */
public final class BoundaryAskersTest {
    private static final int BAD = RecurrentSeries.BAD;
    private static final int FULL = RecurrentSeries.FULL;
    private static final int TOP = Ladder.TOP;
    private static final long FARTHEST = Long.MAX_VALUE;
    private static final Ladder SMALL = Ladder.small();
    private static final Ladder PRIMES = Ladder.primes();

    private final Check check = new Check("boundaries of forget and the askers");

    public static void main(String[] args) {
        BoundaryAskersTest test = new BoundaryAskersTest();
        test.forgetTheLatest();
        test.forgetWhenThereIsNone();
        test.countFromNoneToTwenty();
        test.orderOfEach();
        test.orderNotInTheList();
        test.coefficientsAsRemainders();
        test.coefficientOutOfTheOrder();
        test.coefficientNotInTheList();
        test.termAtZero();
        test.termAtTheFarthest();
        test.termBelowZero();
        test.termNotInTheList();
        test.differAtTheLeast();
        test.differOfEqualSeries();
        test.differNotInTheList();
        test.obeysTheEmptyRow();
        test.obeysTheFullRow();
        test.obeysAllOfThem();
        test.obeysNotInTheList();
        test.sharedOfOneSeries();
        test.sharedWithTheOrderZero();
        test.sharedOfEveryOrder();
        test.sharedNotInTheList();
        test.askingChangesNothing();
        test.askingInVainChangesNothing();
        test.check.end();
    }

    /** That many series: the powers of k + 2, behind one another. */
    private static void list(RecurrentSeries x, int count) {
        for (int k = 0; k < count; k++) {
            Make.geometric(x, k + 2);
        }
    }

    private static int[] outside(int count) {
        return new int[] {-1, count, count + 1, 20, 21, Integer.MIN_VALUE, Integer.MAX_VALUE, 1 << 16, 1 << 8};
    }

    private void forgetTheLatest() {
        check.sentence("Promise 14: Takes the latest series out of the list: true");
        RecurrentSeries x = new RecurrentSeries();
        list(x, 20);
        for (int left = 19; left >= 0; left--) {
            check.due("forget()", x.forget(), true);
            check.due("count()", x.count(), left);
            check.due("order of the forgotten", x.order(left), BAD);
            check.due("order of the latest", x.order(left - 1), left == 0 ? BAD : 1);
            check.due("term of the latest", x.term(left - 1, 1), left == 0 ? BAD : left + 1);
        }
        Make.give(x, 5, 6);
        check.due("leaf(1) in an old place", x.leaf(1), 0);
        check.recurrence(x, 0, 5);
        Make.give(x, 4, 4, 4);
        x.forget();
        check.due("the row after forget", x.clear(), 3);
    }

    private void forgetWhenThereIsNone() {
        check.sentence("Promise 14: false when there is none");
        Twins.refused(check, "forget() of a new object", x -> Make.give(x, 1, 1, 4, 7), x -> x.forget() ? 1 : 0, 0);
        RecurrentSeries x = new RecurrentSeries();
        list(x, 2);
        x.forget();
        x.forget();
        for (int i = 0; i < 5; i++) {
            check.due("forget() of none", x.forget(), false);
            check.due("count()", x.count(), 0);
        }
        check.due("the next number", Make.fibonacci(x), 0);
        check.due("forget() of one", x.forget(), true);
    }

    private void countFromNoneToTwenty() {
        check.sentence("Promise 15: How many series are in the list");
        RecurrentSeries x = new RecurrentSeries();
        for (int k = 0; k < 20; k++) {
            check.due("count() of " + k, x.count(), k);
            check.due("leaf(13)", x.leaf(13), BAD);
            check.due("count() after BAD", x.count(), k);
            Make.zero(x);
        }
        check.due("count() of 20", x.count(), 20);
        check.due("leaf(0)", x.leaf(0), FULL);
        check.due("count() after FULL", x.count(), 20);
    }

    private void orderOfEach() {
        check.sentence("Promise 16: The order of series k");
        for (int r = 0; r <= TOP; r++) {
            RecurrentSeries x = new RecurrentSeries();
            check.due("order of " + r, x.order(SMALL.make(x, r)), r);
            if (r > 0) {
                check.due("order of a unit", x.order(Make.unit(x, r - 1)), r);
            }
        }
    }

    private void orderNotInTheList() {
        check.sentence("Promise 16: BAD when it is not in the list");
        for (int count = 0; count <= 20; count++) {
            RecurrentSeries x = new RecurrentSeries();
            list(x, count);
            for (int k : outside(count)) {
                check.due("order(" + k + ") in a list of " + count, x.order(k), BAD);
            }
            check.due("order of the last", x.order(count - 1), count == 0 ? BAD : 1);
        }
    }

    private void coefficientsAsRemainders() {
        check.sentence("Promise 17: The coefficient c(i), as 0 .. P - 1");
        RecurrentSeries x = new RecurrentSeries();
        Make.series(x, Make.row(-1, -2147483648, 2147483647, 0, 2147483646, -2), 0, 0, 0, 0, 0, 1);
        check.recurrence(x, 0, -1, -1, 0, 0, -1, -2);
        Make.series(x, Make.row(3, 0), 5, 1);
        check.due("a last coefficient of 0", x.coefficient(1, 2), 0);
        check.due("the first coefficient", x.coefficient(1, 1), 3);
    }

    private void coefficientOutOfTheOrder() {
        check.sentence("Promise 17: BAD when i is not 1 .. its order");
        for (int r = 0; r <= TOP; r++) {
            RecurrentSeries x = new RecurrentSeries();
            int k = SMALL.make(x, r);
            int[] bad = {0, -1, r + 1, r + 2, 49, Integer.MIN_VALUE, Integer.MAX_VALUE};
            for (int i : bad) {
                check.due("coefficient " + i + " of the order " + r, x.coefficient(k, i), BAD);
            }
            for (int i = 1; i <= r; i++) {
                check.due("coefficient " + i + " of the order " + r + " is there", x.coefficient(k, i) >= 0, true);
            }
        }
    }

    private void coefficientNotInTheList() {
        check.sentence("Promise 17: BAD when k is not in the list");
        for (int count = 0; count <= 20; count++) {
            RecurrentSeries x = new RecurrentSeries();
            list(x, count);
            for (int k : outside(count)) {
                check.due("coefficient(" + k + ", 1) in a list of " + count, x.coefficient(k, 1), BAD);
                check.due("coefficient(" + k + ", 0) in a list of " + count, x.coefficient(k, 0), BAD);
            }
            check.due("coefficient of the last", x.coefficient(count - 1, 1), count == 0 ? BAD : count + 1);
        }
    }

    private void termAtZero() {
        check.sentence("Promise 18: n of 0");
        for (int r = 0; r <= TOP; r++) {
            RecurrentSeries x = new RecurrentSeries();
            int k = SMALL.make(x, r);
            check.due("term 0 of the order " + r, x.term(k, 0), SMALL.term(r, 0));
            check.due("term 1 of the order " + r, x.term(k, 1), SMALL.term(r, 1));
        }
        RecurrentSeries x = new RecurrentSeries();
        Make.series(x, Make.row(0), -2147483648);
        check.due("term(0, 0) of one that ends, as 0 .. P - 1", x.term(0, 0), Modular.P - 1);
        check.due("term(0, 1) of one that ends", x.term(0, 1), 0);
    }

    private void termAtTheFarthest() {
        check.sentence("Promise 18: for any n up to 2^63 - 1");
        long[] places = {1L << 31, (1L << 31) - 1, 1L << 32, (1L << 32) - 1, 1L << 62, (1L << 62) - 1,
            (1L << 62) + 1, FARTHEST - 1, FARTHEST};
        for (int r = 0; r <= TOP; r++) {
            RecurrentSeries x = new RecurrentSeries();
            int k = SMALL.make(x, r);
            for (long n : places) {
                long want = 0;
                for (int i = 0; i < r; i++) {
                    want += Modular.power(SMALL.ratio(i), n);
                }
                check.due("term " + n + " of the order " + r, x.term(k, n), want % Modular.P);
            }
            if (r > 0) {
                check.due("term 2^63 - 1 of a unit", x.term(Make.unit(x, r - 1), FARTHEST), 0);
            }
        }
    }

    private void termBelowZero() {
        check.sentence("Promise 18: BAD when n is less than 0");
        RecurrentSeries x = new RecurrentSeries();
        Make.zero(x);
        Make.fibonacci(x);
        long[] places = {-1, -2, Integer.MIN_VALUE, -(1L << 32), -(1L << 32) + 1, Long.MIN_VALUE, Long.MIN_VALUE + 1};
        for (long n : places) {
            check.due("term(0, " + n + ")", x.term(0, n), BAD);
            check.due("term(1, " + n + ")", x.term(1, n), BAD);
        }
    }

    private void termNotInTheList() {
        check.sentence("Promise 18: BAD when k is not in the list");
        for (int count = 0; count <= 20; count++) {
            RecurrentSeries x = new RecurrentSeries();
            list(x, count);
            for (int k : outside(count)) {
                check.due("term(" + k + ", 0) in a list of " + count, x.term(k, 0), BAD);
                check.due("term(" + k + ", -1) in a list of " + count, x.term(k, -1), BAD);
                check.due("term(" + k + ", far) in a list of " + count, x.term(k, FARTHEST), BAD);
            }
        }
    }

    /** Series of the orders a and b that are the same in their first a + b - 1 terms, then not. */
    private void differAtTheLeast() {
        check.sentence("Promise 19: The least n at which the terms are not the same");
        int[][] orders = {{1, 0}, {1, 1}, {2, 1}, {5, 7}, {12, 0}, {12, 12}, {24, 0}, {24, 1}, {24, 12}, {24, 24}};
        for (int[] both : orders) {
            int a = both[0];
            int b = both[1];
            long[] weights = weightsThatDifferLast(a, b);
            RecurrentSeries x = new RecurrentSeries();
            int j = weighted(x, 0, Arrays.copyOfRange(weights, 0, a));
            int k = weighted(x, a, Arrays.copyOfRange(weights, a, a + b));
            check.due("order of the first", x.order(j), a);
            check.due("order of the second", x.order(k), b);
            check.due("differ", x.differ(j, k), a + b - 1);
            check.due("differ the other way", x.differ(k, j), a + b - 1);
        }
        RecurrentSeries x = new RecurrentSeries();
        list(x, 2);
        check.due("differ at 1", x.differ(0, 1), 1);
        Make.one(x);
        Make.zero(x);
        check.due("differ at 0", x.differ(2, 3), 0);
        check.due("differ at 1, one ends", x.differ(2, 0), 1);
    }

    private static long[] weightsThatDifferLast(int a, int b) {
        int size = a + b;
        long[][] system = new long[size][size + 1];
        for (int n = 0; n < size; n++) {
            for (int i = 0; i < size; i++) {
                long power = Modular.power(i + 2, n);
                system[n][i] = i < a ? power : Math.floorMod(-power, Modular.P);
            }
        }
        system[size - 1][size] = 1;
        return Modular.solve(system);
    }

    /** The powers of from + 2, from + 3, .. with these weights, at most 24 of them. */
    private static int weighted(RecurrentSeries x, int from, long[] weights) {
        long[] ratios = new long[weights.length];
        for (int i = 0; i < ratios.length; i++) {
            ratios[i] = from + i + 2;
        }
        int half = Math.min(12, ratios.length);
        int low = Make.powers(x, Arrays.copyOf(ratios, half), Arrays.copyOf(weights, half));
        int high = Make.powers(x, Arrays.copyOfRange(ratios, half, ratios.length),
            Arrays.copyOfRange(weights, half, ratios.length));
        return x.combine(low, high, 1, 1);
    }

    private void differOfEqualSeries() {
        check.sentence("Promise 19: -1 when the two series are equal in all their terms");
        for (int r = 0; r <= TOP; r++) {
            RecurrentSeries x = new RecurrentSeries();
            int k = SMALL.make(x, r);
            int again = SMALL.make(x, r);
            check.due("differ of one series", x.differ(k, k), -1);
            check.due("differ of the same made twice", x.differ(k, again), -1);
        }
        RecurrentSeries x = new RecurrentSeries();
        Make.zero(x);
        Make.series(x, Make.row(4, 4), 0, 0);
        check.due("differ of two of the order 0", x.differ(0, 1), -1);
        Make.series(x, Make.row(0, 0, 0), 5, 0, 0);
        Make.series(x, Make.row(0), 5);
        check.due("differ of 5, 0, .. and 5, 0, ..", x.differ(2, 3), -1);
    }

    private void differNotInTheList() {
        check.sentence("Promise 19: -2 when j or k is not in the list");
        for (int count = 0; count <= 20; count++) {
            RecurrentSeries x = new RecurrentSeries();
            list(x, count);
            for (int k : outside(count)) {
                check.due("differ(0, " + k + ") in a list of " + count, x.differ(0, k), -2);
                check.due("differ(" + k + ", 0) in a list of " + count, x.differ(k, 0), -2);
                check.due("differ(" + k + ", " + k + ") in a list of " + count, x.differ(k, k), -2);
            }
        }
    }

    private void obeysTheEmptyRow() {
        check.sentence("Promise 20: obeys the numbers in the row; the row is empty");
        for (int r = 0; r <= TOP; r++) {
            RecurrentSeries x = new RecurrentSeries();
            check.due("the order " + r, x.obeys(SMALL.make(x, r)), r == 0);
            if (r > 0) {
                check.due("1 at the place " + (r - 1), x.obeys(Make.unit(x, r - 1)), false);
            }
        }
    }

    private void obeysTheFullRow() {
        check.sentence("Promise 20: obeys the numbers in the row; forty are there");
        for (int r = 0; r <= TOP; r++) {
            RecurrentSeries x = new RecurrentSeries();
            int k = SMALL.make(x, r);
            for (int i = 1; i <= r; i++) {
                Make.give(x, x.coefficient(k, i));
            }
            Make.give(x, new int[40 - r]);
            check.due("the order " + r, x.obeys(k), true);
            check.due("the row is as it was", x.clear(), 40);
            for (int i = 1; i <= r; i++) {
                Make.give(x, x.coefficient(k, i));
            }
            Make.give(x, new int[39 - r]);
            Make.give(x, 1);
            check.due("the order " + r + ", the last number wrong", x.obeys(k), r == 0);
        }
        for (int r = 1; r <= TOP; r++) {
            missedAtTheLastPlaceAlone(r);
        }
    }

    /** With 1 at the place r - 1 alone, 39 zeros and 1 are missed at the place 40 + r - 1 alone. */
    private void missedAtTheLastPlaceAlone(int r) {
        RecurrentSeries x = new RecurrentSeries();
        int k = Make.unit(x, r - 1);
        Make.give(x, new int[39]);
        Make.give(x, 1);
        check.due("forty, missed at the last place", x.obeys(k), false);
        x.clear();
        Make.give(x, new int[40]);
        check.due("forty zeros", x.obeys(k), true);
    }

    private void obeysAllOfThem() {
        check.sentence("Promise 20: all of them, in their order");
        for (int r = 1; r <= TOP; r++) {
            RecurrentSeries x = new RecurrentSeries();
            int k = SMALL.make(x, r);
            for (int i = 1; i <= r; i++) {
                check.due(i - 1 + " numbers of " + r, x.obeys(k), false);
                Make.give(x, x.coefficient(k, i));
            }
            check.due("all " + r, x.obeys(k), true);
            Make.give(x, 1);
            check.due("one too many, not 0", x.obeys(k), false);
            x.clear();
            Make.give(x, 0);
            for (int i = 1; i <= r; i++) {
                Make.give(x, x.coefficient(k, i));
            }
            check.due("one too many, before the others", x.obeys(k), false);
        }
        RecurrentSeries x = new RecurrentSeries();
        Make.fibonacci(x);
        Make.give(x, 2, 0, -1);
        check.due("2, 0, -1", x.obeys(0), true);
        x.clear();
        Make.give(x, -1, 0, 2);
        check.due("-1, 0, 2", x.obeys(0), false);
    }

    private void obeysNotInTheList() {
        check.sentence("Promise 20: false when k is not in the list");
        for (int count = 0; count <= 20; count++) {
            RecurrentSeries x = new RecurrentSeries();
            Make.fillList(x);
            while (x.count() > count) {
                x.forget();
            }
            for (int k : outside(count)) {
                check.due("obeys(" + k + ") with an empty row", x.obeys(k), false);
            }
            Make.give(x, new int[40]);
            for (int k : outside(count)) {
                check.due("obeys(" + k + ") with a full row", x.obeys(k), false);
            }
            check.due("obeys of the last", x.obeys(count - 1), count > 0);
        }
    }

    private void sharedOfOneSeries() {
        check.sentence("Promise 21: j may be k");
        for (int r = 0; r <= TOP; r++) {
            RecurrentSeries x = new RecurrentSeries();
            int k = SMALL.make(x, r);
            check.due("shared of the order " + r + " with itself", x.shared(k, k), r);
            if (r > 0) {
                int unit = Make.unit(x, r - 1);
                check.due("shared of a unit with itself", x.shared(unit, unit), r);
                check.due("shared of both", x.shared(k, unit), 2 * r);
            }
        }
    }

    private void sharedWithTheOrderZero() {
        check.sentence("Promise 21: a series of the order 0");
        for (int r = 0; r <= TOP; r++) {
            RecurrentSeries x = new RecurrentSeries();
            int k = SMALL.make(x, r);
            int zero = Make.zero(x);
            check.due("shared of the order " + r + " with 0", x.shared(k, zero), r);
            check.due("shared of 0 with the order " + r, x.shared(zero, k), r);
            check.due("shared of 0 with 0", x.shared(zero, zero), 0);
            if (r > 0) {
                int unit = Make.unit(x, r - 1);
                check.due("shared of a unit with 0", x.shared(unit, zero), r);
                check.due("shared of 0 with a unit", x.shared(zero, unit), r);
            }
        }
    }

    private void sharedOfEveryOrder() {
        check.sentence("Promise 21: The least r for which there are r numbers that both obey");
        for (int a = 0; a <= TOP; a++) {
            for (int b = 0; b <= TOP; b++) {
                RecurrentSeries x = new RecurrentSeries();
                int first = SMALL.make(x, a);
                int second = PRIMES.make(x, b);
                int third = SMALL.make(x, b);
                check.due("shared of " + a + " and " + b + " others", x.shared(first, second), a + b);
                check.due("shared of " + a + " and " + b + " within", x.shared(first, third), Math.max(a, b));
            }
        }
    }

    private void sharedNotInTheList() {
        check.sentence("Promise 21: BAD when j or k is not in the list");
        for (int count = 0; count <= 20; count++) {
            RecurrentSeries x = new RecurrentSeries();
            list(x, count);
            for (int k : outside(count)) {
                check.due("shared(0, " + k + ") in a list of " + count, x.shared(0, k), BAD);
                check.due("shared(" + k + ", 0) in a list of " + count, x.shared(k, 0), BAD);
                check.due("shared(" + k + ", " + k + ") in a list of " + count, x.shared(k, k), BAD);
            }
        }
    }

    /** Two series, and four numbers in the row. */
    private static void past(RecurrentSeries x) {
        Make.fibonacci(x);
        Make.geometric(x, 3);
        Make.give(x, 1, 1, 4, 7);
    }

    private void unchanged(String name, Twins.Call call, int want) {
        Twins.refused(check, name, x -> past(x), call, want);
    }

    private void askingChangesNothing() {
        check.sentence("Not promised: the state changes described above (calls that ask make none)");
        unchanged("count()", x -> x.count(), 2);
        unchanged("order(0)", x -> x.order(0), 2);
        unchanged("coefficient(1, 1)", x -> x.coefficient(1, 1), 3);
        unchanged("term(0, 10)", x -> x.term(0, 10), 55);
        unchanged("term(0, 2^63 - 1)", x -> x.term(0, FARTHEST), 1);
        unchanged("differ(0, 1)", x -> x.differ(0, 1), 0);
        unchanged("differ(1, 1)", x -> x.differ(1, 1), -1);
        unchanged("obeys(0)", x -> x.obeys(0) ? 1 : 0, 0);
        unchanged("shared(0, 1)", x -> x.shared(0, 1), 3);
        unchanged("shared(0, 0)", x -> x.shared(0, 0), 2);
    }

    private void askingInVainChangesNothing() {
        check.sentence("Not promised: the state changes described above (calls that ask in vain make none)");
        for (int k : outside(2)) {
            unchanged("order(" + k + ")", x -> x.order(k), BAD);
            unchanged("coefficient(" + k + ", 1)", x -> x.coefficient(k, 1), BAD);
            unchanged("term(" + k + ", 0)", x -> x.term(k, 0), BAD);
            unchanged("differ(" + k + ", 0)", x -> x.differ(k, 0), -2);
            unchanged("differ(0, " + k + ")", x -> x.differ(0, k), -2);
            unchanged("obeys(" + k + ")", x -> x.obeys(k) ? 1 : 0, 0);
            unchanged("shared(" + k + ", 0)", x -> x.shared(k, 0), BAD);
            unchanged("shared(0, " + k + ")", x -> x.shared(0, k), BAD);
        }
        unchanged("coefficient(0, 0)", x -> x.coefficient(0, 0), BAD);
        unchanged("coefficient(0, 3)", x -> x.coefficient(0, 3), BAD);
        unchanged("term(0, -1)", x -> x.term(0, -1), BAD);
    }
}
