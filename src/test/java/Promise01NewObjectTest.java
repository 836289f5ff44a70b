public final class Promise01NewObjectTest {
    public static void main(String[] args) {
        Check check = new Check("promise 1, a new object");
        RecurrentSeries x = new RecurrentSeries();
        check.due("count()", x.count(), 0);
        check.due("order(0)", x.order(0), RecurrentSeries.BAD);
        check.due("forget()", x.forget(), false);
        check.due("clear()", x.clear(), 0);

        RecurrentSeries used = new RecurrentSeries();
        Make.fibonacci(used);
        Make.give(used, 4, 5);
        RecurrentSeries fresh = new RecurrentSeries();
        check.due("count() beside a used object", fresh.count(), 0);
        check.due("clear() beside a used object", fresh.clear(), 0);
        check.due("count() of the used object", used.count(), 1);
        check.due("clear() of the used object", used.clear(), 2);
        check.end();
    }
}
