import java.util.Random;

/** Long runs of calls, the same at every start, asked of the program and of the reference. */
public final class ReferenceRunsTest {
    private static final int RUNS = 450;
    private static final int MOST_CALLS = 512;
    // One turn makes at most 43 calls.
    private static final int LAST_TURN = MOST_CALLS - 100;
    private static final int[] NUMBERS = {0, 0, 0, 1, 1, -1, 2, 3, -2, 2147483647, 2147483646, Integer.MIN_VALUE};

    private final Check check = new Check("runs beside the reference");
    private final Random random = new Random(20261115);
    private RecurrentSeries x;
    private Reference y;
    private int before;

    public static void main(String[] args) {
        ReferenceRunsTest test = new ReferenceRunsTest();
        for (int run = 0; run < RUNS; run++) {
            test.x = new RecurrentSeries();
            test.y = new Reference();
            test.before = test.check.asked();
            while (test.calls() < LAST_TURN) {
                test.anyCall();
            }
            test.coefficients();
        }
        test.check.end();
    }

    private int calls() {
        return check.asked() - before;
    }

    private void anyCall() {
        int kind = random.nextInt(100);
        if (kind < 20) {
            anyLeaf();
        } else if (kind < 60) {
            anyMaker();
        } else if (kind < 65) {
            for (int i = random.nextInt(4); i >= 0; i--) {
                check.due("forget()", x.forget(), y.forget());
            }
        } else {
            anyQuestion();
        }
    }

    private int number() {
        return random.nextInt(4) == 0 ? random.nextInt() : NUMBERS[random.nextInt(NUMBERS.length)];
    }

    private int listed() {
        int count = Math.max(1, y.count());
        return random.nextInt(25) == 0 ? random.nextInt(30) - 5 : random.nextInt(count);
    }

    private void give(int v) {
        check.due("give(" + v + ")", x.give(v), y.give(v));
    }

    private void anyLeaf() {
        if (random.nextInt(4) != 0) {
            check.due("clear()", x.clear(), y.clear());
        }
        int r = random.nextInt(3) == 0 ? random.nextInt(14) : random.nextInt(5);
        for (int i = 0; i < 2 * r; i++) {
            give(number());
        }
        if (random.nextInt(6) == 0) {
            give(number());
        }
        check.due("leaf(" + r + ")", x.leaf(r), y.leaf(r));
    }

    private void anyMaker() {
        int j = listed();
        int k = random.nextInt(4) == 0 ? j : listed();
        int m = random.nextInt(3) == 0 ? random.nextInt(27) - 1 : 1 + random.nextInt(3);
        int i = random.nextInt(3) == 0 ? random.nextInt(1010) - 5 : random.nextInt(5);
        String of = " of " + j + " " + k + " " + m + " " + i;
        switch (random.nextInt(9)) {
            case 0 -> {
                int p = number();
                int q = number();
                check.due("combine" + of + " " + p + " " + q, x.combine(j, k, p, q), y.combine(j, k, p, q));
            }
            case 1 -> check.due("product" + of, x.product(j, k), y.product(j, k));
            case 2 -> check.due("pairwise" + of, x.pairwise(j, k), y.pairwise(j, k));
            case 3 -> check.due("derivative" + of, x.derivative(k), y.derivative(k));
            case 4 -> check.due("tail" + of, x.tail(k), y.tail(k));
            case 5 -> check.due("delay" + of, x.delay(k), y.delay(k));
            case 6 -> check.due("sums" + of, x.sums(k), y.sums(k));
            case 7 -> check.due("section" + of, x.section(k, m, i), y.section(k, m, i));
            default -> check.due("spread" + of, x.spread(k, m), y.spread(k, m));
        }
    }

    private void anyQuestion() {
        int j = listed();
        int k = listed();
        switch (random.nextInt(6)) {
            case 0 -> check.due("count()", x.count(), y.count());
            case 1 -> check.due("order(" + k + ")", x.order(k), y.order(k));
            case 2 -> {
                long n = random.nextInt(4) == 0 ? random.nextLong() : random.nextInt(100);
                check.due("term(" + k + ", " + n + ")", x.term(k, n), y.term(k, n));
            }
            case 3 -> check.due("differ " + j + " " + k, x.differ(j, k), y.differ(j, k));
            case 4 -> check.due("shared " + j + " " + k, x.shared(j, k), y.shared(j, k));
            default -> obeysOfAMultiple(k);
        }
    }

    /** Gives the recurrence of series k widened by a factor, now and then with a wrong number. */
    private void obeysOfAMultiple(int k) {
        check.due("obeys(" + k + ")", x.obeys(k), y.obeys(k));
        check.due("clear()", x.clear(), y.clear());
        int order = Math.max(0, y.order(k));
        int more = random.nextInt(41 - order);
        long[] factor = new long[more + 1];
        long[] multiple = new long[order + more + 1];
        factor[0] = 1;
        for (int i = 1; i <= more; i++) {
            factor[i] = Math.floorMod(number(), Modular.P);
        }
        for (int i = 0; i <= more; i++) {
            for (int c = 0; c <= order; c++) {
                long own = c == 0 ? 1 : -y.coefficient(k, c);
                multiple[i + c] = Math.floorMod(multiple[i + c] + factor[i] * own % Modular.P, Modular.P);
            }
        }
        if (random.nextInt(3) == 0 && order + more > 0) {
            multiple[1 + random.nextInt(order + more)] ^= 1;
        }
        for (int i = 1; i <= order + more; i++) {
            give((int) Math.floorMod(-multiple[i], Modular.P));
        }
        check.due("obeys(" + k + ") a multiple", x.obeys(k), y.obeys(k));
    }

    /** Asks for the coefficients of the latest series, as many as the object has calls left. */
    private void coefficients() {
        for (int k = y.count() - 1; k >= 0; k--) {
            for (int i = 0; i <= y.order(k) + 1 && calls() < MOST_CALLS; i++) {
                check.due("coefficient(" + k + ", " + i + ")", x.coefficient(k, i), y.coefficient(k, i));
            }
        }
    }
}
