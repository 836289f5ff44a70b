public final class Promise15CountTest {
    public static void main(String[] args) {
        Check check = new Check("promise 15, count");
        RecurrentSeries x = new RecurrentSeries();
        for (int k = 0; k < 20; k++) {
            check.due("count()", x.count(), k);
            check.due("number of the new series", Make.geometric(x, k + 2), k);
        }
        check.due("count() of the full list", x.count(), 20);
        check.due("combine in the full list", x.combine(0, 1, 1, 1), RecurrentSeries.FULL);
        check.due("count() after FULL", x.count(), 20);
        for (int k = 0; k < 20; k++) {
            check.due("term(" + k + ", 1)", x.term(k, 1), k + 2);
        }
        x.forget();
        check.due("count() after forget", x.count(), 19);
        Make.give(x, 3);
        check.due("count() after give", x.count(), 19);
        check.end();
    }
}
