import java.util.Arrays;

/** The sentences under 'What it is' and 'Terms' that name no boundary. */
public final class DocumentTest {
    private static final int TOP = Ladder.TOP;
    private static final Ladder SMALL = Ladder.small();
    private static final int LONG = RecurrentSeries.LONG;
    private static final int SEEN = 60;

    private final Check check = new Check("the document");

    public static void main(String[] args) {
        DocumentTest test = new DocumentTest();
        test.closed();
        test.leastRecurrences();
        test.equalSeries();
        test.seriesThatAreNotQuiteEqual();
        test.anInfiniteRow();
        test.obeysAtEveryPlace();
        test.obeysFromTheFirstPlaceOn();
        test.boundsComeFromOrders();
        test.boundsGrowWithTheOrders();
        test.atMostOneSeries();
        test.makingChangesTheListAlone();
        test.objectsAreApart();
        test.check.end();
    }

    /** Every maker takes what every maker made. */
    private void closed() {
        check.sentence("closed under sums, two kinds of product, derivatives and more");
        for (Maker first : Maker.ALL) {
            for (Maker second : Maker.ALL) {
                RecurrentSeries x = new RecurrentSeries();
                Make.fibonacci(x);
                Make.series(x, Make.row(3, 0), 4, 5);
                check.due(first.name(), first.make(x, 0, 1), 2);
                check.due(second.name() + " of " + first.name(), second.make(x, 2, 1), 3);
                check.terms(x, 2, definedTerms(first, x, 0, 1));
                check.terms(x, 3, definedTerms(second, x, 2, 1));
            }
        }
    }

    private static long[] definedTerms(Maker maker, RecurrentSeries x, int j, int k) {
        long[] a = terms(x, j, SEEN + 1);
        long[] b = terms(x, k, SEEN + 1);
        long[] defined = new long[SEEN];
        for (int n = 0; n < SEEN; n++) {
            defined[n] = maker.name().equals("section") ? x.term(j, 24L * n + 1000)
                : Definition.term(maker, at -> a[(int) at], at -> b[(int) at], n);
        }
        return defined;
    }

    private static long[] terms(RecurrentSeries x, int k, int length) {
        long[] terms = new long[length];
        for (int n = 0; n < length; n++) {
            terms[n] = x.term(k, n);
        }
        return terms;
    }

    /** The order is the rank of the square of the terms a(i + j), which knows of no recurrence. */
    private void leastRecurrences() {
        check.sentence("each series has its least recurrence");
        for (Maker first : Maker.ALL) {
            for (Maker second : Maker.ALL) {
                RecurrentSeries x = new RecurrentSeries();
                Make.fibonacci(x);
                Make.series(x, Make.row(1, 0), 4, 5);
                int made = second.make(x, first.make(x, 0, 1), 1);
                long[] terms = definedTerms(second, x, 2, 1);
                int order = rank(terms);
                int bound = Definition.bound(second, x.order(2), x.order(1));
                check.due("order of " + second.name() + " of " + first.name(), x.order(made), order);
                check.due("it is above the bound", order > bound, false);
                long[] coefficients = coefficients(x, made);
                for (int n = order; n < SEEN; n++) {
                    check.due("what its coefficients foretell", foretold(coefficients, terms, n), terms[n]);
                }
            }
        }
    }

    private static int rank(long[] terms) {
        long[][] square = new long[TOP][];
        for (int i = 0; i < TOP; i++) {
            square[i] = Arrays.copyOfRange(terms, i, i + TOP);
        }
        return Modular.eliminate(square, TOP);
    }

    private static long[] coefficients(RecurrentSeries x, int k) {
        long[] coefficients = new long[x.order(k)];
        for (int i = 1; i <= coefficients.length; i++) {
            coefficients[i - 1] = x.coefficient(k, i);
        }
        return coefficients;
    }

    private static long foretold(long[] coefficients, long[] terms, int n) {
        long sum = 0;
        for (int i = 1; i <= coefficients.length; i++) {
            sum = (sum + coefficients[i - 1] * terms[n - i]) % Modular.P;
        }
        return sum;
    }

    private interface Way {
        int make(RecurrentSeries x);
    }

    private static final int A = 0;
    private static final int B = 1;
    private static final int ONES = 2;
    private static final int SECOND = 3;

    private static RecurrentSeries withFour() {
        RecurrentSeries x = new RecurrentSeries();
        Make.series(x, Make.row(1, 1), 2, 7);
        Make.series(x, Make.row(3, 0), 4, 5);
        Make.series(x, Make.row(1), 1);
        Make.series(x, Make.row(0, 0), 0, 1);
        return x;
    }

    /** Two ways to the same series; their places in the list are their only difference. */
    private void same(String name, Way one, Way other) {
        RecurrentSeries x = withFour();
        int left = one.make(x);
        int right = other.make(x);
        check.due(name + " is made", left > SECOND && right >= 0, true);
        check.due(name, x.differ(left, right), -1);
        check.due(name + ", the other way", x.differ(right, left), -1);
        check.due(name + ", the orders", x.order(left), x.order(right));
        check.due(name + ", shared", x.shared(left, right), x.order(left));
        check.due(name + ", far out", x.term(left, Long.MAX_VALUE), x.term(right, Long.MAX_VALUE));
    }

    private void equalSeries() {
        check.sentence("whether two series are equal in all their terms is decided");
        same("a + b = b + a", x -> x.combine(A, B, 1, 1), x -> x.combine(B, A, 1, 1));
        same("a b = b a", x -> x.product(A, B), x -> x.product(B, A));
        same("a a b = a (a b)", x -> x.product(x.product(A, A), B), x -> x.product(A, x.product(A, B)));
        same("a (a + b) = a a + a b", x -> x.product(A, x.combine(A, B, 1, 1)),
            x -> x.combine(x.product(A, A), x.product(A, B), 1, 1));
        same("(a b)' = a' b + a b'", x -> x.derivative(x.product(A, B)),
            x -> x.combine(x.product(x.derivative(A), B), x.product(A, x.derivative(B)), 1, 1));
        same("pairwise with ones", x -> x.pairwise(A, ONES), x -> A);
        same("pairwise over a sum", x -> x.pairwise(A, x.combine(A, B, 1, 1)),
            x -> x.combine(x.pairwise(A, A), x.pairwise(A, B), 1, 1));
        same("the tail of the delayed", x -> x.tail(x.delay(A)), x -> A);
        same("delay is a product", x -> x.delay(A), x -> x.product(SECOND, A));
        same("sums are a product", x -> x.sums(A), x -> x.product(ONES, A));
        same("sums less the delayed sums", x -> differences(x, x.sums(A)), x -> A);
        same("the section of the spread", x -> x.section(x.spread(A, 7), 7, 0), x -> A);
        same("the empty section of the spread", x -> x.section(x.spread(A, 7), 7, 3), x -> x.combine(A, A, 1, -1));
        same("a section of a section", x -> x.section(x.section(A, 3, 5), 4, 7), x -> x.section(A, 12, 26));
        same("a spread of a spread", x -> x.spread(x.spread(A, 3), 4), x -> x.spread(A, 12));
        same("the spread of a product", x -> x.spread(x.product(A, B), 5),
            x -> x.product(x.spread(A, 5), x.spread(B, 5)));
        same("a section as a tail", x -> x.section(A, 1, 1), x -> x.tail(A));
        same("both sections laid together", x -> x.combine(x.spread(x.section(A, 2, 0), 2),
            x.delay(x.spread(x.section(A, 2, 1), 2)), 1, 1), x -> A);
    }

    private static int differences(RecurrentSeries x, int k) {
        return x.combine(k, x.delay(k), 1, -1);
    }

    /** The same but for 1 at the place at, so that this is the least place where they differ. */
    private void seriesThatAreNotQuiteEqual() {
        check.sentence("whether two series are equal in all their terms is decided (when they are not)");
        for (int at = 0; at <= 20; at++) {
            RecurrentSeries x = withFour();
            int unit = Make.unit(x, at);
            int near = x.combine(A, unit, 1, 1);
            check.due("differ at " + at, x.differ(A, near), at);
            check.due("differ at " + at + ", the other way", x.differ(near, A), at);
            if (at <= 10) {
                int back = x.combine(near, unit, 1, -1);
                check.due("differ when it is taken away again", x.differ(A, back), -1);
            }
        }
    }

    /** The recurrence holds wherever it is looked for, so the row of terms has no end. */
    private void anInfiniteRow() {
        check.sentence("A SERIES is an infinite row of numbers a(0), a(1), a(2), ..");
        long[] places = {0, 1, 48, 87, 88, 1000, Modular.P - 10, 1L << 40, Long.MAX_VALUE - TOP};
        for (int r = 0; r <= TOP; r++) {
            for (long n : places) {
                RecurrentSeries x = new RecurrentSeries();
                int k = SMALL.make(x, r);
                long[] window = new long[r + 1];
                for (int i = 0; i <= r; i++) {
                    window[i] = x.term(k, n + i);
                }
                check.due("the order " + r + " at " + n, window[r], foretold(coefficients(x, k), window, r));
            }
        }
    }

    /** With 1 at the place at alone, zeros and 1 as the last of many are missed at many + at alone. */
    private void obeysAtEveryPlace() {
        check.sentence("a(n + r) = c(1) a(n + r - 1) + c(2) a(n + r - 2) + .. + c(r) a(n) for every n >= 0");
        for (int at = 0; at < TOP; at++) {
            RecurrentSeries x = new RecurrentSeries();
            int unit = Make.unit(x, at);
            for (int many = at + 1; many <= 40; many += 3) {
                x.clear();
                Make.give(x, new int[many - 1]);
                Make.give(x, 1);
                check.due("1 at " + at + ", missed at " + (many + at), x.obeys(unit), false);
            }
            x.clear();
            Make.give(x, new int[at + 1]);
            check.due("1 at " + at + ", missed nowhere", x.obeys(unit), true);
        }
    }

    /** A geometric series, delayed: its own coefficient is missed at one place alone, the last zero's. */
    private void obeysFromTheFirstPlaceOn() {
        check.sentence("OBEYS .. for every n >= 0 (the first of them too)");
        RecurrentSeries x = new RecurrentSeries();
        Make.series(x, Make.row(2), 1);
        Make.series(x, Make.row(2, 0), 9, 1);
        Make.give(x, 2);
        check.due("1, 2, 4, ..", x.obeys(0), true);
        check.due("9, 1, 2, 4, ..", x.obeys(1), false);
        int k = 0;
        for (int late = 1; late <= 17; late++) {
            k = late == 1 ? x.delay(0) : x.delay(k);
            check.due("1, 2, 4, .. delayed by " + late, x.obeys(k), false);
        }
        for (int many = 1; many <= 18; many++) {
            check.due("delayed by 17, " + many + " numbers", x.obeys(k), many == 18);
            Make.give(x, 0);
        }
    }

    /** Twelve numbers were given for each, but one alone is its order. */
    private void boundsComeFromOrders() {
        check.sentence("Each call that makes a series out of others has a BOUND, worked out from their orders");
        int[] coefficients = new int[12];
        int[] threes = new int[12];
        int[] fives = new int[12];
        coefficients[0] = 3;
        for (int n = 0; n < 12; n++) {
            threes[n] = (int) Modular.power(3, n);
            fives[n] = (int) (5 * Modular.power(3, n) % Modular.P);
        }
        for (Maker maker : Maker.ALL) {
            RecurrentSeries x = new RecurrentSeries();
            Make.series(x, coefficients, threes);
            Make.series(x, coefficients, fives);
            check.due(maker.name() + " of the order 1", maker.make(x, 0, 1), 2);
            check.due(maker.name() + " of what was made", maker.make(x, 2, 0), 3);
            check.due(maker.name() + " of that", maker.make(x, 3, 1), 4);
            check.due("spread by 24 of the order 1", x.spread(0, 24), 5);
            check.due("spread by 12 of the order 1", x.spread(1, 12), 6);
            check.due("pairwise of 12 and 1", x.pairwise(6, 0), 7);
            check.due("pairwise of 24 and 1", x.pairwise(1, 5), 8);
            check.due("pairwise of 24 and 12", x.pairwise(5, 6), LONG);
        }
    }

    /** A bound is never taken from another bound: each of these orders grows by 1. */
    private void boundsGrowWithTheOrders() {
        check.sentence("a BOUND, worked out from the orders of those others (not from their bounds)");
        RecurrentSeries x = new RecurrentSeries();
        Make.geometric(x, 3);
        for (int r = 1; r <= 12; r++) {
            check.due("derivative of the order " + r, x.derivative(r - 1), r);
            check.due("its order", x.order(r), r + 1);
        }
        check.due("derivative of the order 13", x.derivative(12), LONG);
        RecurrentSeries y = new RecurrentSeries();
        Make.geometric(y, 3);
        for (int turn = 0; turn < 18; turn++) {
            check.due("combine with itself, turn " + turn, y.combine(turn, 0, 1, 1), turn + 1);
            check.due("its order", y.order(turn + 1), 1);
        }
    }

    /** However many of its terms are told, the series is the same. */
    private void atMostOneSeries() {
        check.sentence("Promise 4: There is at most one, for at least r terms are given");
        for (int r = 0; r <= 12; r++) {
            RecurrentSeries x = new RecurrentSeries();
            SMALL.make(x, r);
            for (int more = 0; more <= 6 && 2 * r + more <= 40; more++) {
                for (int i = 1; i <= r; i++) {
                    Make.give(x, x.coefficient(0, i));
                }
                for (int n = 0; n < r + more; n++) {
                    Make.give(x, (int) SMALL.term(r, n));
                }
                check.due("leaf(" + r + ") with " + more + " more", x.leaf(r), more + 1);
                check.due("it is the same", x.differ(0, more + 1), -1);
            }
        }
    }

    private void makingChangesTheListAlone() {
        check.sentence("Nothing is promised beyond the answers and state changes described above (makers)");
        for (Maker maker : Maker.ALL) {
            Twins.refused(check, maker.name() + ", then forget()", x -> past(x), x -> {
                maker.make(x, 0, 1);
                return x.forget() ? 1 : 0;
            }, 1);
        }
        Twins.refused(check, "leaf(1) of the cleared row, then forget()", x -> {
            past(x);
            x.clear();
        }, x -> {
            Make.geometric(x, 5);
            return x.forget() ? 1 : 0;
        }, 1);
        Twins.refused(check, "give, then clear()", x -> Make.fibonacci(x), x -> {
            Make.give(x, 4, 5);
            return x.clear();
        }, 2);
    }

    /** Three series, the last as long as can be, and four numbers in the row. */
    private static void past(RecurrentSeries x) {
        Make.fibonacci(x);
        Make.geometric(x, 3);
        x.spread(1, 24);
        Make.give(x, 1, 1, 4, 7);
    }

    private void objectsAreApart() {
        check.sentence("Promise 1: RecurrentSeries(): each object has a list and a row of its own");
        RecurrentSeries x = new RecurrentSeries();
        RecurrentSeries y = new RecurrentSeries();
        Make.fibonacci(x);
        Make.geometric(y, 3);
        Make.give(x, 1, 1);
        Make.give(y, 3);
        for (int n = 0; n < 100; n++) {
            check.due("term of the one", x.term(0, 90), 1907004461);
            check.due("term of the other", y.term(0, n), Modular.power(3, n));
        }
        check.due("obeys(0) of the one", x.obeys(0), true);
        check.due("obeys(0) of the other", y.obeys(0), true);
        check.due("delay(0) of the one", x.delay(0), 1);
        check.due("count() of the other", y.count(), 1);
        check.due("clear() of the one", x.clear(), 2);
        check.due("clear() of the other", y.clear(), 1);
    }
}
