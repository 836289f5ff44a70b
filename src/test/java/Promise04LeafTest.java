public final class Promise04LeafTest {
    public static void main(String[] args) {
        Check check = new Check("promise 4, leaf");
        ordinary(check);
        leastRecurrence(check);
        orderZero(check);
        longest(check);
        badArguments(check);
        othersThatDoNotFit(check);
        whichRefusalComesFirst(check);
        check.end();
    }

    private static void ordinary(Check check) {
        RecurrentSeries x = new RecurrentSeries();
        Make.give(x, 1, 1, 0, 1);
        check.due("leaf(2)", x.leaf(2), 0);
        check.recurrence(x, 0, 1, 1);
        check.terms(x, 0, 0, 1, 1, 2, 3, 5, 8, 13);
        check.due("clear() after leaf", x.clear(), 0);
        Make.give(x, 1, 1, 0, 1, 1, 2, 3, 5);
        check.due("leaf(2) with more terms", x.leaf(2), 1);
        check.due("differ", x.differ(0, 1), -1);
        Make.give(x, 2, -3, 5, 1, 2, 3);
        check.due("leaf(3)", x.leaf(3), 2);
        check.recurrence(x, 2, 2, -3, 5);
        check.terms(x, 2, 1, 2, 3, 5, 11, 22);
    }

    private static void leastRecurrence(Check check) {
        RecurrentSeries x = new RecurrentSeries();
        Make.series(x, Make.row(2, -1), 3, 3);
        check.recurrence(x, 0, 1);
        Make.series(x, Make.row(5, -6), 1, 2);
        check.recurrence(x, 1, 2);
        Make.series(x, Make.row(0, 0, 0), 0, 4, 0);
        check.recurrence(x, 2, 0, 0);
        Make.series(x, Make.row(2, 0, 0), 7, 1, 2);
        check.recurrence(x, 3, 2, 0);
        check.terms(x, 3, 7, 1, 2, 4, 8);
        Make.series(x, Make.row(0), 5);
        check.recurrence(x, 4, 0);
        Make.series(x, Make.row(4, 4, 4, 4), 0, 0, 0, 0);
        check.recurrence(x, 5);
        Make.series(x, Make.row(0, 0, 2), 0, 0, 3);
        check.recurrence(x, 6, 0, 0, 2);
    }

    private static void orderZero(Check check) {
        RecurrentSeries x = new RecurrentSeries();
        check.due("leaf(0) of the empty row", x.leaf(0), 0);
        Make.give(x, 0, 2147483647, -2147483647);
        check.due("leaf(0) of zeros", x.leaf(0), 1);
        check.due("clear() after leaf", x.clear(), 0);
        check.recurrence(x, 1);
        check.due("differ(0, 1)", x.differ(0, 1), -1);
        Make.give(x, 0, 0, 1);
        check.due("leaf(0) of 0 0 1", x.leaf(0), RecurrentSeries.WRONG);
        check.due("clear() after WRONG", x.clear(), 3);
    }

    private static void longest(Check check) {
        RecurrentSeries x = new RecurrentSeries();
        Make.everyTwelfth(x);
        check.recurrence(x, 0, 0, 0, 0, 0, 0, 0, 0, 0, 0, 0, 0, 1);
        giveTwelfths(x, 0);
        check.due("leaf(12) with forty numbers", x.leaf(12), 1);
        check.due("differ", x.differ(0, 1), -1);
        giveTwelfths(x, 1);
        check.due("leaf(12) with a wrong last term", x.leaf(12), RecurrentSeries.WRONG);
        check.due("clear()", x.clear(), 40);
    }

    /** Twelve coefficients and 28 terms, the last being given. */
    private static void giveTwelfths(RecurrentSeries x, int last) {
        for (int i = 0; i < 39; i++) {
            x.give(i % 12 == 0 && i > 0 || i == 11 ? 1 : 0);
        }
        x.give(last);
    }

    private static void badArguments(Check check) {
        RecurrentSeries x = new RecurrentSeries();
        check.due("leaf(1) of the empty row", x.leaf(1), RecurrentSeries.BAD);
        Make.give(x, 1, 1, 1);
        check.due("leaf(2) of three numbers", x.leaf(2), RecurrentSeries.BAD);
        for (int i = 3; i < 40; i++) {
            x.give(1);
        }
        int[] bad = {-1, 13, 20, 21, Integer.MIN_VALUE, Integer.MAX_VALUE, 1 << 30, 1 << 31};
        for (int r : bad) {
            check.due("leaf(" + r + ")", x.leaf(r), RecurrentSeries.BAD);
        }
        check.due("clear() after BAD", x.clear(), 40);
        for (int i = 0; i < 23; i++) {
            x.give(0);
        }
        check.due("leaf(12) of 23 numbers", x.leaf(12), RecurrentSeries.BAD);
        x.give(0);
        check.due("leaf(12) of 24 numbers", x.leaf(12), 0);
    }

    private static void othersThatDoNotFit(Check check) {
        RecurrentSeries x = new RecurrentSeries();
        Make.give(x, 1, 1, 0, 1, 1, 3);
        check.due("leaf(2) of 0 1 1 3", x.leaf(2), RecurrentSeries.WRONG);
        check.due("count() after WRONG", x.count(), 0);
        check.due("leaf(1) of 1 0 1 1 3", x.leaf(1), RecurrentSeries.WRONG);
        check.due("leaf(3) of the same row", x.leaf(3), 0);
        check.terms(x, 0, 1, 1, 3, 4, 7, 11);
        Make.give(x, 2, 1, 2, 4, 9);
        check.due("leaf(1) of 1 2 4 9", x.leaf(1), RecurrentSeries.WRONG);
        check.due("clear() after WRONG", x.clear(), 5);
    }

    private static void whichRefusalComesFirst(Check check) {
        RecurrentSeries x = new RecurrentSeries();
        Make.fillList(x);
        check.due("count()", x.count(), 20);
        Make.give(x, 5, 1, 7);
        check.due("leaf(2) of the full list", x.leaf(2), RecurrentSeries.BAD);
        check.due("leaf(13) of the full list", x.leaf(13), RecurrentSeries.BAD);
        check.due("leaf(1) of the full list", x.leaf(1), RecurrentSeries.FULL);
        check.due("leaf(0) of the full list", x.leaf(0), RecurrentSeries.FULL);
        x.forget();
        check.due("leaf(1) after forget", x.leaf(1), RecurrentSeries.WRONG);
        check.due("clear() after all", x.clear(), 3);
        Make.give(x, 5, 1);
        check.due("leaf(1), the twentieth", x.leaf(1), 19);
        check.due("leaf(0), the 21st", x.leaf(0), RecurrentSeries.FULL);
    }
}
