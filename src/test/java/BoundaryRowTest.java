/** The boundary sentences of the promises 1 to 4: the new object, the row, and the leaves. */
public final class BoundaryRowTest {
    private static final int BAD = RecurrentSeries.BAD;
    private static final int FULL = RecurrentSeries.FULL;
    private static final int WRONG = RecurrentSeries.WRONG;

    public static void main(String[] args) {
        Check check = new Check("boundaries of the row");
        noSeries(check);
        anEmptyRow(check);
        giveAppends(check);
        giveWhenFortyAreThere(check);
        clearAnswersHowMany(check);
        clearMakesEmpty(check);
        leafMakesTheRowEmpty(check);
        leafBeginsWithAllTheOthers(check);
        leafOutOfRange(check);
        leafOfTooFewNumbers(check);
        leafOfAFullList(check);
        leafOfOthersThatDoNotFit(check);
        leafOfTheOrderZero(check);
        check.end();
    }

    private static void noSeries(Check check) {
        check.sentence("Promise 1: No series");
        RecurrentSeries x = new RecurrentSeries();
        check.due("count()", x.count(), 0);
        check.due("order(0)", x.order(0), BAD);
        check.due("term(0, 0)", x.term(0, 0), BAD);
        check.due("forget()", x.forget(), false);
        check.due("the first leaf(0)", x.leaf(0), 0);
    }

    private static void anEmptyRow(Check check) {
        check.sentence("Promise 1: an empty row");
        check.due("clear()", new RecurrentSeries().clear(), 0);
        RecurrentSeries x = new RecurrentSeries();
        check.due("leaf(1)", x.leaf(1), BAD);
        check.due("leaf(0)", x.leaf(0), 0);
        check.due("the series 0 obeys no numbers", x.obeys(0), true);
        for (int i = 0; i < 40; i++) {
            check.due("give", x.give(0), true);
        }
    }

    private static void giveAppends(Check check) {
        check.sentence("Promise 2: Appends the number v stands for to the row: true");
        RecurrentSeries x = new RecurrentSeries();
        check.due("give(1)", x.give(1), true);
        check.due("give(-1)", x.give(-1), true);
        check.due("give(7)", x.give(7), true);
        check.due("give(9)", x.give(9), true);
        check.due("leaf(2)", x.leaf(2), 0);
        check.recurrence(x, 0, 1, -1);
        check.terms(x, 0, 7, 9, 2, -7, -9);
    }

    private static void giveWhenFortyAreThere(Check check) {
        check.sentence("Promise 2: false, changing nothing, when forty are there");
        Twins.refused(check, "give the 41st", x -> giveForty(x), x -> x.give(5) ? 1 : 0, 0);
        Twins.refused(check, "give a 0 as the 41st", x -> giveForty(x), x -> x.give(0) ? 1 : 0, 0);
        Twins.refused(check, "give the 41st beside a series", x -> {
            Make.fibonacci(x);
            giveForty(x);
        }, x -> x.give(5) ? 1 : 0, 0);
        RecurrentSeries x = new RecurrentSeries();
        giveForty(x);
        for (int i = 0; i < 100; i++) {
            check.due("give too many", x.give(i), false);
        }
        check.due("clear()", x.clear(), 40);
        check.due("give after clear", x.give(1), true);
    }

    /** Fills the row: the ratio 3 and 39 of its powers. */
    private static void giveForty(RecurrentSeries x) {
        Make.give(x, 3);
        for (int n = 0; n < 39; n++) {
            Make.give(x, (int) Modular.power(3, n));
        }
    }

    private static void clearAnswersHowMany(Check check) {
        check.sentence("Promise 3: answers how many numbers were in it");
        for (int many = 0; many <= 40; many++) {
            RecurrentSeries x = new RecurrentSeries();
            Make.give(x, new int[many]);
            check.due("clear() of " + many, x.clear(), many);
            check.due("clear() again", x.clear(), 0);
        }
    }

    private static void clearMakesEmpty(Check check) {
        check.sentence("Promise 3: Makes the row empty");
        RecurrentSeries x = new RecurrentSeries();
        Make.geometric(x, 2);
        Make.give(x, 2, 0, 0, 0);
        check.due("obeys(0)", x.obeys(0), true);
        x.clear();
        check.due("obeys(0) of the empty row", x.obeys(0), false);
        check.due("leaf(1) of the empty row", x.leaf(1), BAD);
        Make.give(x, 5, 6);
        check.due("leaf(1) of what came later", x.leaf(1), 1);
        check.recurrence(x, 1, 5);
        check.terms(x, 1, 6, 30, 150);
        check.due("count()", x.count(), 2);
    }

    private static void leafMakesTheRowEmpty(Check check) {
        check.sentence("Promise 4: makes the row empty");
        for (int many = 0; many <= 40; many++) {
            RecurrentSeries x = new RecurrentSeries();
            Make.give(x, new int[many]);
            check.due("leaf of " + many, x.leaf(Math.min(many / 2, 12)), 0);
            check.due("clear() after it", x.clear(), 0);
        }
    }

    private static void leafBeginsWithAllTheOthers(Check check) {
        check.sentence("Promise 4: obeys the first r numbers of the row and begins with all the others");
        Ladder ladder = Ladder.small();
        for (int r = 1; r <= 12; r++) {
            for (int others = r; others <= 40 - r; others++) {
                RecurrentSeries x = new RecurrentSeries();
                giveRung(x, ladder, r, others);
                check.due("leaf(" + r + ") with " + others + " others", x.leaf(r), 1);
                check.due("its order", x.order(1), r);
                check.due("it is the series", x.differ(0, 1), -1);
            }
        }
    }

    /** Makes the series of the order r, and gives its coefficients and so many of its terms. */
    private static void giveRung(RecurrentSeries x, Ladder ladder, int r, int others) {
        ladder.make(x, r);
        for (int i = 1; i <= r; i++) {
            Make.give(x, x.coefficient(0, i));
        }
        for (int n = 0; n < others; n++) {
            Make.give(x, (int) ladder.term(r, n));
        }
    }

    private static void leafOutOfRange(Check check) {
        check.sentence("Promise 4: BAD when r is not 0 .. 12");
        int[] outside = {-1, -2, 13, 14, 20, 21, 40, Integer.MIN_VALUE, Integer.MAX_VALUE, 1 << 30, 3 << 30};
        for (int r : outside) {
            Twins.refused(check, "leaf(" + r + ") of forty", x -> giveForty(x), x -> x.leaf(r), BAD);
            Twins.refused(check, "leaf(" + r + ") of none", x -> Make.zero(x), x -> x.leaf(r), BAD);
            Twins.refused(check, "leaf(" + r + ") of a full list", x -> fullAndForty(x), x -> x.leaf(r), BAD);
        }
        for (int r = 0; r <= 12; r++) {
            RecurrentSeries x = new RecurrentSeries();
            Make.give(x, new int[40]);
            check.due("leaf(" + r + ") of forty zeros", x.leaf(r), 0);
        }
    }

    private static void fullAndForty(RecurrentSeries x) {
        Make.fillList(x);
        giveForty(x);
    }

    private static void leafOfTooFewNumbers(Check check) {
        check.sentence("Promise 4: BAD when the row has less than 2 r numbers");
        for (int r = 1; r <= 12; r++) {
            int size = r;
            for (int many = 0; many < 2 * size; many++) {
                int[] zeros = new int[many];
                Twins.refused(check, "leaf(" + r + ") of " + many, x -> Make.give(x, zeros), x -> x.leaf(size), BAD);
            }
            RecurrentSeries x = new RecurrentSeries();
            Make.give(x, new int[2 * size]);
            check.due("leaf(" + r + ") of " + 2 * r, x.leaf(r), 0);
        }
        int[] misfits = {1, 2, 3};
        Twins.refused(check, "BAD before WRONG", x -> Make.give(x, misfits), x -> x.leaf(2), BAD);
        Twins.refused(check, "BAD before FULL", x -> fullAndGiven(x, misfits), x -> x.leaf(2), BAD);
    }

    private static void leafOfAFullList(Check check) {
        check.sentence("Promise 4: else FULL as said above");
        Twins.refused(check, "leaf(1)", x -> fullAndForty(x), x -> x.leaf(1), FULL);
        Twins.refused(check, "leaf(12)", x -> fullAndGiven(x, new int[24]), x -> x.leaf(12), FULL);
        Twins.refused(check, "leaf(0)", x -> fullAndGiven(x), x -> x.leaf(0), FULL);
        Twins.refused(check, "FULL before WRONG", x -> fullAndGiven(x, 2, 1, 3), x -> x.leaf(1), FULL);
        RecurrentSeries x = new RecurrentSeries();
        fullAndForty(x);
        x.forget();
        check.due("leaf(1) after forget", x.leaf(1), 19);
    }

    private static void fullAndGiven(RecurrentSeries x, int... numbers) {
        Make.fillList(x);
        Make.give(x, numbers);
    }

    private static void leafOfOthersThatDoNotFit(Check check) {
        check.sentence("Promise 4: else WRONG, changing nothing, when the others do not fit");
        Ladder ladder = Ladder.small();
        for (int r = 1; r <= 12; r++) {
            for (int others = r + 1; others <= 40 - r; others++) {
                int size = r;
                int right = others - 1;
                int misfit = (int) ((ladder.term(r, right) + 1) % Modular.P);
                Twins.refused(check, "leaf(" + r + ") with a wrong last of " + others, x -> {
                    giveRung(x, ladder, size, right);
                    Make.give(x, misfit);
                }, x -> x.leaf(size), WRONG);
            }
        }
        Twins.refused(check, "leaf(1) with a wrong one between",
            x -> Make.give(x, 1, 5, 5, 6, 5), x -> x.leaf(1), WRONG);
        Twins.refused(check, "leaf(1) with a wrong one that is P off in one step",
            x -> Make.give(x, 2, 2147483646, 2147483646), x -> x.leaf(1), WRONG);
    }

    private static void leafOfTheOrderZero(Check check) {
        check.sentence("Promise 4: r = 0");
        for (int many = 0; many <= 40; many++) {
            int[] zeros = new int[many];
            RecurrentSeries x = new RecurrentSeries();
            Make.give(x, zeros);
            check.due("leaf(0) of zeros", x.leaf(0), 0);
            check.due("order(0)", x.order(0), 0);
            check.due("term(0, 0)", x.term(0, 0), 0);
            for (int i = 0; i < many; i++) {
                int[] one = new int[many];
                one[i] = 1;
                Twins.refused(check, "leaf(0) with 1 at " + i, y -> Make.give(y, one), y -> y.leaf(0), WRONG);
            }
        }
        RecurrentSeries x = new RecurrentSeries();
        Make.give(x, 2147483647, -2147483647, 0);
        check.due("leaf(0) of ints that stand for 0", x.leaf(0), 0);
        Make.give(x, -2147483648);
        check.due("leaf(0) of an int that stands for P - 1", x.leaf(0), WRONG);
    }
}
