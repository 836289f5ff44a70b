public final class Promise20ObeysTest {
    public static void main(String[] args) {
        Check check = new Check("promise 20, obeys");
        ordinary(check);
        emptyRow(check);
        fullRow(check);
        notListed(check);
        check.end();
    }

    private static void ordinary(Check check) {
        RecurrentSeries x = new RecurrentSeries();
        Make.fibonacci(x);
        Make.give(x, 1);
        check.due("obeys 1", x.obeys(0), false);
        Make.give(x, 2147483647 - 2147483646);
        check.due("obeys 1 1", x.obeys(0), true);
        Make.give(x, 0);
        check.due("obeys 1 1 0", x.obeys(0), true);
        Make.give(x, 1);
        check.due("obeys 1 1 0 1", x.obeys(0), false);
        check.due("clear(): the row is as it was", x.clear(), 4);
        Make.give(x, 2, 0, -1);
        check.due("obeys 2 0 -1", x.obeys(0), true);
        x.clear();
        Make.give(x, 0, 1, 1);
        check.due("obeys 0 1 1", x.obeys(0), false);
        x.clear();
        Make.give(x, 0, 2, 1);
        check.due("obeys 0 2 1", x.obeys(0), true);
        x.clear();
        Make.series(x, Make.row(2, 0), 7, 1);
        Make.give(x, 2);
        check.due("7, 1, 2, 4, .. obeys 2", x.obeys(1), false);
        Make.give(x, 0);
        check.due("7, 1, 2, 4, .. obeys 2 0", x.obeys(1), true);
    }

    private static void emptyRow(Check check) {
        RecurrentSeries x = new RecurrentSeries();
        Make.zero(x);
        Make.one(x);
        Make.unit(x, 23);
        check.due("0 obeys the empty row", x.obeys(0), true);
        check.due("1, 0, .. obeys the empty row", x.obeys(1), false);
        check.due("a unit obeys the empty row", x.obeys(x.count() - 1), false);
        Make.give(x, 9);
        check.due("0 obeys 9", x.obeys(0), true);
        x.clear();
        Make.give(x, 0);
        check.due("1, 0, .. obeys 0", x.obeys(1), true);
    }

    /** With 1 at the place 23 alone, x^40 + 1 is missed at n = 23 and nowhere else. */
    private static void fullRow(Check check) {
        RecurrentSeries x = new RecurrentSeries();
        int unit = Make.unit(x, 23);
        for (int i = 0; i < 24; i++) {
            Make.give(x, 0);
            check.due("a unit obeys zeros, " + (i + 1), x.obeys(unit), i == 23);
        }
        for (int i = 24; i < 39; i++) {
            Make.give(x, 0);
        }
        Make.give(x, -1);
        check.due("a unit obeys 39 zeros and -1", x.obeys(unit), false);
        x.clear();
        for (int i = 0; i < 16; i++) {
            Make.give(x, i + 3);
        }
        for (int i = 16; i < 40; i++) {
            Make.give(x, 0);
        }
        check.due("a unit obeys sixteen numbers and 24 zeros", x.obeys(unit), true);
        check.due("clear()", x.clear(), 40);
        Make.everyTwelfth(x);
        int twice = x.product(x.count() - 1, x.count() - 1);
        Make.give(x, 0, 0, 0, 0, 0, 0, 0, 0, 0, 0, 0, 1, 0, 0, 0, 0, 0, 0, 0, 0, 0, 0, 0, 1);
        check.due("24 numbers, wrong", x.obeys(twice), false);
        Make.give(x, 0, 0, 0, 0, 0, 0, 0, 0, 0, 0, 0, -1);
        check.due("36 numbers, right", x.obeys(twice), true);
        Make.give(x, 0, 0, 0, 0);
        check.due("40 numbers, right", x.obeys(twice), true);
    }

    private static void notListed(Check check) {
        RecurrentSeries x = new RecurrentSeries();
        check.due("obeys(0) of the empty list", x.obeys(0), false);
        Make.zero(x);
        int[] outside = {-1, 1, 20, Integer.MIN_VALUE, Integer.MAX_VALUE};
        for (int k : outside) {
            check.due("obeys(" + k + ")", x.obeys(k), false);
        }
        x.forget();
        check.due("obeys(0) after forget", x.obeys(0), false);
    }
}
