import java.util.Arrays;

public final class Promise19DifferTest {
    public static void main(String[] args) {
        Check check = new Check("promise 19, differ");
        ordinary(check);
        equalSeries(check);
        latestDifference(check);
        notListed(check);
        check.end();
    }

    private static void ordinary(Check check) {
        RecurrentSeries x = new RecurrentSeries();
        Make.fibonacci(x);
        Make.series(x, Make.row(1), 1);
        Make.series(x, Make.row(1, 0), 0, 1);
        Make.zero(x);
        check.due("differ(0, 1)", x.differ(0, 1), 0);
        check.due("differ(0, 2)", x.differ(0, 2), 3);
        check.due("differ(2, 0)", x.differ(2, 0), 3);
        check.due("differ(0, 3)", x.differ(0, 3), 1);
        int unit = Make.unit(x, 23);
        check.due("differ from 1 at 23", x.differ(3, unit), 23);
        int longer = x.sums(x.tail(unit));
        check.due("differ from 1 from 22 on", x.differ(3, longer), 22);
    }

    private static void equalSeries(Check check) {
        RecurrentSeries x = new RecurrentSeries();
        Make.fibonacci(x);
        Make.series(x, Make.row(2, 0, -1), 0, 1, 1);
        check.due("differ(0, 0)", x.differ(0, 0), -1);
        check.due("differ(0, 1)", x.differ(0, 1), -1);
        Make.zero(x);
        Make.series(x, Make.row(5, 5), 0, 0);
        check.due("differ(2, 3)", x.differ(2, 3), -1);
    }

    /** Two series of order 24 that are the same in their first 47 terms, and not in the next. */
    private static void latestDifference(Check check) {
        int size = 48;
        long[][] system = new long[size][size + 1];
        for (int n = 0; n < size; n++) {
            for (int k = 0; k < size; k++) {
                long power = Modular.power(k + 2, n);
                system[n][k] = k < 24 ? power : Math.floorMod(-power, Modular.P);
            }
            system[n][size] = n == 47 ? 1 : 0;
        }
        long[] weights = Modular.solve(system);
        RecurrentSeries x = new RecurrentSeries();
        for (int part = 0; part < 4; part++) {
            long[] ratios = new long[12];
            for (int i = 0; i < 12; i++) {
                ratios[i] = 12 * part + i + 2;
            }
            Make.powers(x, ratios, Arrays.copyOfRange(weights, 12 * part, 12 * part + 12));
        }
        x.combine(0, 1, 1, 1);
        x.combine(2, 3, 1, 1);
        check.due("order(4)", x.order(4), 24);
        check.due("order(5)", x.order(5), 24);
        check.due("differ(4, 5)", x.differ(4, 5), 47);
        check.due("differ(5, 4)", x.differ(5, 4), 47);
    }

    private static void notListed(Check check) {
        RecurrentSeries x = new RecurrentSeries();
        check.due("differ(0, 0) of the empty list", x.differ(0, 0), -2);
        Make.fibonacci(x);
        int[] outside = {-1, 1, 20, Integer.MIN_VALUE, Integer.MAX_VALUE};
        for (int k : outside) {
            check.due("differ(0, " + k + ")", x.differ(0, k), -2);
            check.due("differ(" + k + ", 0)", x.differ(k, 0), -2);
        }
        check.due("differ(9, 9)", x.differ(9, 9), -2);
    }
}
