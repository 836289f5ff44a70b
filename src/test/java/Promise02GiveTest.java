public final class Promise02GiveTest {
    public static void main(String[] args) {
        Check check = new Check("promise 2, give");
        numbersStandForRemainders(check);
        fortyAndNoMore(check);
        check.end();
    }

    private static void numbersStandForRemainders(Check check) {
        RecurrentSeries x = new RecurrentSeries();
        Make.series(x, new int[6], 0, 2147483646, -1, 2147483647, Integer.MIN_VALUE, -2147483647);
        check.terms(x, 0, 0, Modular.P - 1, Modular.P - 1, 0, Modular.P - 1, 0, 0);
        Make.series(x, Make.row(-2147483646), 7);
        check.recurrence(x, 1, 1);
    }

    private static void fortyAndNoMore(Check check) {
        RecurrentSeries x = new RecurrentSeries();
        for (int i = 0; i < 40; i++) {
            check.due("give " + i, x.give(i == 0 ? 3 : (int) Modular.power(3, i - 1)), true);
        }
        check.due("give the 41st", x.give(1), false);
        check.due("leaf(1) with the forty", x.leaf(1), 0);
        check.due("clear() after leaf", x.clear(), 0);
        for (int i = 0; i < 40; i++) {
            check.due("give again", x.give(5), true);
        }
        check.due("give the 41st again", x.give(5), false);
        check.due("give the 42nd again", x.give(6), false);
        check.due("clear()", x.clear(), 40);
        check.due("give after clear", x.give(5), true);
        check.due("clear()", x.clear(), 1);
    }
}
