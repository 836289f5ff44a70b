/** The boundary sentences under 'What it is' and 'Terms': one method for each of them. */
public final class BoundaryTermsTest {
    private static final int BAD = RecurrentSeries.BAD;
    private static final int FULL = RecurrentSeries.FULL;
    private static final int LONG = RecurrentSeries.LONG;
    private static final int LEAST = Integer.MIN_VALUE;
    private static final int MOST = Integer.MAX_VALUE;
    private static final int[] NEVER_LISTED = {-1, 20, 21, LEAST, MOST};

    public static void main(String[] args) {
        Check check = new Check("boundaries of the terms");
        theConstants(check);
        allCallsOfAnObject(check);
        callsAfterThatEndToo(check);
        anIntThatIsGiven(check);
        answersAreRemainders(check);
        theOrderZero(check);
        theOrderIsTheLeast(check);
        aLastCoefficientOfZero(check);
        twentySeries(check);
        theNextNumber(check);
        fortyNumbers(check);
        badSeries(check);
        badNumber(check);
        fullList(check);
        longBound(check);
        whichRefusalComesFirst(check);
        check.end();
    }

    private static void theConstants(Check check) {
        check.sentence("The public face: BAD = -1, FULL = -2, LONG = -3, WRONG = -4");
        check.due("BAD", BAD, -1);
        check.due("FULL", FULL, -2);
        check.due("LONG", LONG, -3);
        check.due("WRONG", RecurrentSeries.WRONG, -4);
    }

    private static void allCallsOfAnObject(Check check) {
        check.sentence("An object is used for at most 512 calls after it has been made");
        RecurrentSeries x = new RecurrentSeries();
        x.give(3);
        x.give(1);
        check.due("call 3", x.leaf(1), 0);
        int calls = 3;
        while (calls + 4 <= 511) {
            check.due("section at call " + calls, x.section(0, 24, 1000), 1);
            check.due("term at call " + calls, x.term(1, calls), Modular.power(3, 24L * calls + 1000));
            check.due("spread at call " + calls, x.spread(1, 24), 2);
            x.forget();
            x.forget();
            calls += 5;
        }
        while (calls < 511) {
            check.due("count() at call " + calls, x.count(), 1);
            calls++;
        }
        check.due("call 512", x.term(0, Long.MAX_VALUE), Modular.power(3, Long.MAX_VALUE));
    }

    /** What they answer is free, but rule 7 of LANGUAGE.md has no call throw in any state. */
    private static void callsAfterThatEndToo(Check check) {
        check.sentence("what later calls answer is free");
        RecurrentSeries x = new RecurrentSeries();
        for (int call = 0; call < 3000; call++) {
            x.give(call);
            x.leaf(call % 13);
            for (Maker maker : Maker.ALL) {
                maker.make(x, call % 20, (call + 7) % 20);
            }
            x.term(call % 20, Long.MAX_VALUE);
            x.obeys(call % 20);
            x.shared(call % 20, call % 19);
            if (call % 11 == 0) {
                x.forget();
            }
        }
        check.due("they ended", true, true);
    }

    private static void anIntThatIsGiven(Check check) {
        check.sentence("An int that is given (any int) stands for its remainder");
        remainder(check, -1, Modular.P - 1);
        remainder(check, 2147483647, 0);
        remainder(check, -2147483648, Modular.P - 1);
        remainder(check, 2147483646, Modular.P - 1);
        remainder(check, -2147483646, 1);
        remainder(check, -2147483647, 0);
        remainder(check, -2, Modular.P - 2);
        remainder(check, 0, 0);
        remainder(check, 1, 1);
    }

    /** An int is given as a coefficient, as a term, as combine's x and y, and to be obeyed. */
    private static void remainder(Check check, int given, long want) {
        RecurrentSeries x = new RecurrentSeries();
        Make.series(x, Make.row(given), 1);
        check.due("coefficient given as " + given, x.coefficient(0, 1), want);
        check.due("term after that", x.term(0, 1), want);
        Make.give(x, given);
        check.due("obeys " + given, x.obeys(0), true);
        x.clear();
        Make.give(x, (int) want);
        check.due("obeys " + want, x.obeys(0), true);
        x.clear();
        Make.series(x, Make.row(0, 0), given, given);
        check.terms(x, 1, want, want, 0);
        Make.series(x, Make.row(1), 1, 1);
        check.due("combine with x " + given, x.combine(2, 2, given, 0), 3);
        check.due("its term", x.term(3, 5), want);
        check.due("combine with y " + given, x.combine(2, 2, 0, given), 4);
        check.due("its term", x.term(4, 5), want);
        check.due("combine with both " + given, x.combine(2, 2, given, given), 5);
        check.due("its term", x.term(5, 5), 2 * want % Modular.P);
        Make.give(x, 1, 3, 3, given);
        check.due("leaf(1) with a last term " + given, x.leaf(1), RecurrentSeries.WRONG);
    }

    private static void answersAreRemainders(Check check) {
        check.sentence("NUMBERS are the remainders 0 .. P - 1; adding, subtracting and multiplying are modulo P");
        RecurrentSeries x = new RecurrentSeries();
        Make.series(x, Make.row(-1, -1, -1), -1, -1, -1);
        check.recurrence(x, 0, -1, -1, -1);
        check.terms(x, 0, -1, -1, -1, 3, -1, -1, -1, 3);
        check.due("product of P - 1 at the most", x.product(0, 0), 1);
        check.terms(x, 1, 1, 2, 3, -4, -3);
        Make.series(x, Make.row(1), 2147483646);
        check.due("combine past P", x.combine(2, 2, 1, 1), 3);
        check.terms(x, 3, -2, -2);
        check.due("sums past P", x.sums(2), 4);
        check.terms(x, 4, -1, -2, -3);
        check.due("pairwise of P - 1", x.pairwise(2, 2), 5);
        check.terms(x, 5, 1, 1);
        Make.series(x, Make.row(1), 1);
        x.sums(6);
        check.due("term that is P", x.term(7, Modular.P - 1), 0);
        check.due("term before that", x.term(7, Modular.P - 2), Modular.P - 1);
    }

    private static void theOrderZero(Check check) {
        check.sentence("with r = 0: when all its terms are 0");
        RecurrentSeries x = new RecurrentSeries();
        Make.zero(x);
        Make.series(x, Make.row(7, 7), 0, 0);
        Make.geometric(x, 2);
        x.combine(2, 2, 1, -1);
        Make.one(x);
        check.due("order of leaf(0)", x.order(0), 0);
        check.due("order of a leaf of zeros", x.order(1), 0);
        check.due("order of what cancels", x.order(3), 0);
        check.due("order of 1, 0, 0, ..", x.order(4), 1);
        check.due("0 obeys no numbers", x.obeys(3), true);
        check.due("1, 0, 0, .. obeys no numbers", x.obeys(4), false);
    }

    private static void theOrderIsTheLeast(Check check) {
        check.sentence("Its ORDER is the least r for which it obeys some r numbers; these r numbers are the only ones");
        for (int r = 1; r <= 12; r++) {
            RecurrentSeries x = new RecurrentSeries();
            int[] coefficients = new int[r];
            int[] terms = new int[r];
            coefficients[0] = 4;
            for (int n = 0; n < r; n++) {
                terms[n] = n < 2 ? 1 + 2 * n : 3 * terms[n - 1];
            }
            if (r > 1) {
                coefficients[1] = -3;
            }
            Make.series(x, coefficients, terms);
            check.recurrence(x, 0, r == 1 ? 4 : 3);
        }
    }

    private static void aLastCoefficientOfZero(Check check) {
        check.sentence("c(r) may be 0: 5, 0, 0, 0, .. has the order 1 and the coefficient 0");
        RecurrentSeries x = new RecurrentSeries();
        Make.series(x, Make.row(0), 5);
        check.recurrence(x, 0, 0);
        check.terms(x, 0, 5, 0, 0, 0);
        Make.series(x, Make.row(9, 0), 5, 0);
        check.recurrence(x, 1, 0);
        check.due("differ(0, 1)", x.differ(0, 1), -1);
        Make.series(x, Make.row(2, 0), 5, 1);
        check.recurrence(x, 2, 2, 0);
        Make.series(x, Make.row(0, 0, 0, 0, 0, 0, 0, 0, 0, 0, 0, 0), 0, 0, 0, 0, 0, 0, 0, 0, 0, 0, 0, 5);
        check.recurrence(x, 3, 0, 0, 0, 0, 0, 0, 0, 0, 0, 0, 0, 0);
    }

    private static void twentySeries(Check check) {
        check.sentence("THE LIST holds at most 20 series, numbered 0, 1, .. in the order in which they came");
        RecurrentSeries x = new RecurrentSeries();
        for (int k = 0; k < 20; k++) {
            Make.give(x, k + 2, 1);
            check.due("leaf(1) of the list of " + k, x.leaf(1), k);
        }
        Make.give(x, 2, 1);
        check.due("leaf(1) of the list of 20", x.leaf(1), FULL);
        check.due("tail of the list of 20", x.tail(19), FULL);
        for (int k = 0; k < 20; k++) {
            check.due("coefficient(" + k + ", 1)", x.coefficient(k, 1), k + 2);
        }
        check.due("order(20)", x.order(20), BAD);
        check.due("count()", x.count(), 20);
    }

    private static void theNextNumber(Check check) {
        check.sentence("a new one gets the next number");
        for (Maker maker : Maker.ALL) {
            RecurrentSeries x = new RecurrentSeries();
            Make.geometric(x, 2);
            for (int k = 1; k < 20; k++) {
                check.due(maker.name() + " in a list of " + k, maker.make(x, 0, 0), k);
            }
            x.forget();
            x.forget();
            check.due(maker.name() + " after forget", maker.make(x, 0, 0), 18);
            check.due(maker.name() + " as the twentieth", maker.make(x, 0, 0), 19);
            check.due(maker.name() + " as the 21st", maker.make(x, 0, 0), FULL);
        }
    }

    private static void fortyNumbers(Check check) {
        check.sentence("THE ROW holds at most 40 numbers");
        RecurrentSeries x = new RecurrentSeries();
        for (int i = 0; i < 40; i++) {
            check.due("give in a row of " + i, x.give(i), true);
        }
        check.due("give in a row of 40", x.give(7), false);
        check.due("clear()", x.clear(), 40);
    }

    private static void badSeries(Check check) {
        check.sentence("changing nothing: BAD when an argument is not as said there (a series that is not in the list)");
        for (Maker maker : Maker.ALL) {
            for (int count = 0; count <= 20; count++) {
                int listed = count;
                refusedOutside(check, maker, listed, listed);
                for (int outside : NEVER_LISTED) {
                    refusedOutside(check, maker, listed, outside);
                }
            }
        }
    }

    private static void refusedOutside(Check check, Maker maker, int count, int outside) {
        String of = maker.name() + " of " + outside + " in a list of " + count;
        Twins.refused(check, of, x -> past(x, count), x -> maker.make(x, outside, 0), BAD);
        if (maker.two()) {
            Twins.refused(check, of + ", second", x -> past(x, count), x -> maker.make(x, 0, outside), BAD);
            Twins.refused(check, of + ", both", x -> past(x, count), x -> maker.make(x, outside, outside), BAD);
        }
    }

    /** That many series, and four numbers in the row. */
    private static void past(RecurrentSeries x, int count) {
        for (int k = 0; k < count; k++) {
            Make.series(x, Make.row(k + 2), k + 1);
        }
        Make.give(x, 1, 1, 4, 7);
    }

    private static void badNumber(Check check) {
        check.sentence("changing nothing: BAD when an argument is not as said there (a number out of its range)");
        for (int count = 1; count <= 20; count++) {
            int listed = count;
            for (int m : new int[] {0, -1, 25, LEAST, MOST}) {
                Twins.refused(check, "section by " + m, x -> past(x, listed), x -> x.section(0, m, 0), BAD);
                Twins.refused(check, "spread by " + m, x -> past(x, listed), x -> x.spread(0, m), BAD);
            }
            for (int i : new int[] {-1, 1001, LEAST, MOST}) {
                Twins.refused(check, "section from " + i, x -> past(x, listed), x -> x.section(0, 1, i), BAD);
            }
            for (int r : new int[] {-1, 3, 13, LEAST, MOST}) {
                Twins.refused(check, "leaf(" + r + ")", x -> past(x, listed), x -> x.leaf(r), BAD);
            }
        }
    }

    private static void fullList(Check check) {
        check.sentence("else FULL when 20 series are in the list, changing nothing");
        for (Maker maker : Maker.ALL) {
            Twins.refused(check, maker.name(), x -> past(x, 20), x -> maker.make(x, 0, 19), FULL);
            Twins.refused(check, maker.name(), x -> past(x, 20), x -> maker.make(x, 19, 19), FULL);
        }
        Twins.refused(check, "leaf(2)", x -> past(x, 20), x -> x.leaf(2), FULL);
        Twins.refused(check, "leaf(0)", x -> past(x, 20), x -> x.leaf(0), FULL);
        for (Maker maker : Maker.ALL) {
            RecurrentSeries x = new RecurrentSeries();
            past(x, 19);
            check.due(maker.name() + " in a list of 19", maker.make(x, 0, 18), 19);
        }
    }

    private static void longBound(Check check) {
        check.sentence("else LONG when the bound is more than 24, changing nothing");
        for (Maker maker : Maker.ALL) {
            if (maker.isLongForLongest()) {
                String name = maker.name() + " of the order 24";
                Twins.refused(check, name, x -> longPast(x), x -> maker.make(x, 2, 2), LONG);
                Twins.refused(check, name + ", made again", x -> longPast(x), x -> maker.make(x, 3, 2), LONG);
            } else {
                RecurrentSeries x = new RecurrentSeries();
                longPast(x);
                check.due(maker.name() + " of the order 24", maker.make(x, 2, 2), 4);
            }
        }
    }

    /** The series 2 and 3 have the order 24. */
    private static void longPast(RecurrentSeries x) {
        Make.everyTwelfth(x);
        Make.series(x, Make.row(0, 0, 0, 0, 0, 0, 0, 0, 0, 0, 0, 2), 1, 0, 0, 0, 0, 0, 0, 0, 0, 0, 0, 0);
        x.combine(0, 1, 1, 1);
        x.combine(0, 1, 1, 2);
        Make.give(x, 1, 1, 4, 7);
    }

    private static void whichRefusalComesFirst(Check check) {
        check.sentence("BAD ..; else FULL ..; else LONG ..");
        for (Maker maker : Maker.ALL) {
            Twins.refused(check, maker.name() + ": BAD before FULL",
                x -> fullLongPast(x), x -> maker.make(x, 20, 20), BAD);
            Twins.refused(check, maker.name() + ": FULL before LONG",
                x -> fullLongPast(x), x -> maker.make(x, 2, 3), FULL);
            Twins.refused(check, maker.name() + ": BAD before LONG",
                x -> longPast(x), x -> maker.make(x, 4, 2), BAD);
            if (maker.two()) {
                Twins.refused(check, maker.name() + ": BAD before LONG, second",
                    x -> longPast(x), x -> maker.make(x, 2, 4), BAD);
            }
        }
        Twins.refused(check, "spread by 25 of the order 24", x -> longPast(x), x -> x.spread(2, 25), BAD);
        Twins.refused(check, "spread by 25 of the order 24, full", x -> fullLongPast(x), x -> x.spread(2, 25), BAD);
        Twins.refused(check, "section from 1001, full", x -> fullLongPast(x), x -> x.section(2, 1, 1001), BAD);
        Twins.refused(check, "section by 0, full", x -> fullLongPast(x), x -> x.section(2, 0, 0), BAD);
        Twins.refused(check, "leaf(3), full", x -> fullLongPast(x), x -> x.leaf(3), BAD);
    }

    private static void fullLongPast(RecurrentSeries x) {
        longPast(x);
        x.clear();
        Make.fillList(x);
        Make.give(x, 1, 1, 4, 7);
    }
}
