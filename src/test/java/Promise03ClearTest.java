public final class Promise03ClearTest {
    public static void main(String[] args) {
        Check check = new Check("promise 3, clear");
        RecurrentSeries x = new RecurrentSeries();
        check.due("clear() of the empty row", x.clear(), 0);
        Make.give(x, 9, 9, 9);
        check.due("clear() of three", x.clear(), 3);
        check.due("clear() again", x.clear(), 0);
        check.due("leaf(1) of the cleared row", x.leaf(1), RecurrentSeries.BAD);
        Make.geometric(x, 2);
        Make.give(x, 2);
        check.due("obeys(0) before clear", x.obeys(0), true);
        check.due("clear() of one", x.clear(), 1);
        check.due("obeys(0) after clear", x.obeys(0), false);
        check.due("count() after clear", x.count(), 1);
        Make.give(x, 3, 1);
        check.due("leaf(1) of what was given after clear", x.leaf(1), 1);
        check.terms(x, 1, 1, 3, 9, 27);
        check.end();
    }
}
