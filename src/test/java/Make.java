/** Series that several tests start from. */
final class Make {
    private Make() {
    }

    static int[] row(int... numbers) {
        return numbers;
    }

    static void give(RecurrentSeries x, int... numbers) {
        for (int number : numbers) {
            if (!x.give(number)) {
                throw new IllegalStateException("the row is full");
            }
        }
    }

    /** The series with these coefficients and first terms; the row must be empty before. */
    static int series(RecurrentSeries x, int[] coefficients, int... terms) {
        give(x, coefficients);
        give(x, terms);
        int number = x.leaf(coefficients.length);
        if (number < 0) {
            throw new IllegalStateException("leaf answered " + number);
        }
        return number;
    }

    static int fibonacci(RecurrentSeries x) {
        return series(x, row(1, 1), 0, 1);
    }

    static int geometric(RecurrentSeries x, int ratio) {
        return series(x, row(ratio), 1);
    }

    static int zero(RecurrentSeries x) {
        return series(x, row());
    }

    /** 1, 0, 0, .. which has the order 1. */
    static int one(RecurrentSeries x) {
        return series(x, row(0), 1);
    }

    /** 1 at the place at, else 0: the order is at + 1. Takes two numbers of the list or one. */
    static int unit(RecurrentSeries x, int at) {
        int[] zeros = new int[12];
        int[] terms = new int[12];
        terms[Math.min(at, 11)] = 1;
        int made = series(x, zeros, terms);
        for (int i = 11; i < at; i++) {
            made = x.delay(made);
        }
        return made;
    }

    /** 1 at every twelfth place: the order is 12. */
    static int everyTwelfth(RecurrentSeries x) {
        int[] coefficients = new int[12];
        int[] terms = new int[12];
        coefficients[11] = 1;
        terms[0] = 1;
        return series(x, coefficients, terms);
    }

    /** The series weights[i] * ratios[i]^n added over i, for at most 12 different ratios. */
    static int powers(RecurrentSeries x, long[] ratios, long[] weights) {
        int size = ratios.length;
        long[] polynomial = new long[size + 1];
        polynomial[0] = 1;
        for (int k = 0; k < size; k++) {
            for (int i = k + 1; i >= 1; i--) {
                polynomial[i] = Math.floorMod(polynomial[i] - ratios[k] * polynomial[i - 1], Modular.P);
            }
        }
        int[] coefficients = new int[size];
        int[] terms = new int[size];
        for (int n = 0; n < size; n++) {
            coefficients[n] = (int) Math.floorMod(-polynomial[n + 1], Modular.P);
            terms[n] = (int) powerSum(ratios, weights, n);
        }
        return series(x, coefficients, terms);
    }

    static long powerSum(long[] ratios, long[] weights, long n) {
        long sum = 0;
        for (int k = 0; k < ratios.length; k++) {
            sum = (sum + weights[k] * Modular.power(ratios[k], n)) % Modular.P;
        }
        return sum;
    }

    /** Fills the list up to its twenty with series of order 0. */
    static void fillList(RecurrentSeries x) {
        for (int k = x.count(); k < 20; k++) {
            zero(x);
        }
    }
}
