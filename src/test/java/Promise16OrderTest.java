public final class Promise16OrderTest {
    public static void main(String[] args) {
        Check check = new Check("promise 16, order");
        RecurrentSeries x = new RecurrentSeries();
        Make.zero(x);
        Make.series(x, Make.row(0), 5);
        Make.fibonacci(x);
        Make.series(x, Make.row(3, 3, 3), 0, 0, 0);
        Make.series(x, Make.row(1, 1, 0), 0, 1, 1);
        Make.series(x, Make.row(1, 1, 0), 0, 1, 2);
        int[] want = {0, 1, 2, 0, 2, 3};
        for (int k = 0; k < want.length; k++) {
            check.due("order(" + k + ")", x.order(k), want[k]);
        }
        int longest = Make.unit(x, 23);
        check.due("order of 24", x.order(longest), 24);
        int[] outside = {-1, x.count(), 20, Integer.MIN_VALUE, Integer.MAX_VALUE};
        for (int k : outside) {
            check.due("order(" + k + ")", x.order(k), RecurrentSeries.BAD);
        }
        check.end();
    }
}
