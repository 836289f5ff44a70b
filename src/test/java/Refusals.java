/** What every call that makes a series out of others must refuse, in the order of the document. */
final class Refusals {
    private Refusals() {
    }

    /** A call that makes a series out of the series j and k (or out of j alone). */
    interface Maker {
        int make(RecurrentSeries x, int j, int k);
    }

    private static final int[] OUTSIDE = {-1, 2, 19, 20, Integer.MIN_VALUE, Integer.MAX_VALUE};

    /** Series that are not in the list are BAD, also when the list is full; else FULL. */
    static void badThenFull(Check check, Maker maker, boolean two) {
        RecurrentSeries x = new RecurrentSeries();
        check.due("made of an empty list", maker.make(x, 0, 0), RecurrentSeries.BAD);
        Make.geometric(x, 2);
        Make.geometric(x, 3);
        Make.give(x, 7, 8);
        for (int outside : OUTSIDE) {
            check.due("made of " + outside, maker.make(x, outside, 0), RecurrentSeries.BAD);
            if (two) {
                check.due("made of 0 and " + outside, maker.make(x, 0, outside), RecurrentSeries.BAD);
            }
        }
        check.due("count() after BAD", x.count(), 2);
        check.due("clear() after BAD", x.clear(), 2);
        x.forget();
        check.due("made of a forgotten series", maker.make(x, 1, 1), RecurrentSeries.BAD);
        Make.geometric(x, 3);
        Make.fillList(x);
        Make.give(x, 7, 8, 9);
        check.due("made of 20 in the full list", maker.make(x, 20, 0), RecurrentSeries.BAD);
        check.due("made of -1 in the full list", maker.make(x, -1, 0), RecurrentSeries.BAD);
        check.due("made in the full list", maker.make(x, 0, 1), RecurrentSeries.FULL);
        check.due("count() after FULL", x.count(), 20);
        check.due("clear() after FULL", x.clear(), 3);
        x.forget();
        Make.give(x, 7);
        check.due("made as the twentieth", maker.make(x, 0, 1), 19);
        check.due("made as the 21st", maker.make(x, 0, 1), RecurrentSeries.FULL);
        check.due("clear() after making", x.clear(), 1);
    }

    /** Bounds above 24 are LONG, but FULL comes before it; x has series j and k of such a bound. */
    static void fullThenLong(Check check, Maker maker, RecurrentSeries x, int j, int k) {
        int count = x.count();
        Make.give(x, 6);
        check.due("made with a bound above 24", maker.make(x, j, k), RecurrentSeries.LONG);
        check.due("count() after LONG", x.count(), count);
        check.due("clear() after LONG", x.clear(), 1);
        Make.fillList(x);
        check.due("made with a bound above 24 in the full list", maker.make(x, j, k), RecurrentSeries.FULL);
        while (x.count() > count) {
            x.forget();
        }
    }
}
