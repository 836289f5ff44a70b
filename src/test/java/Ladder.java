import java.util.Arrays;

/**
 * A series of each order 0 .. 24: that of the order r adds up the powers of the first r ratios. As
 * the ratios are not the same, none of them can be left out of its recurrence.
 */
final class Ladder {
    static final int TOP = 24;
    private static final int TERMS = 60;
    private static final int MOST_LEAF = 12;

    private final long[] ratios;
    private final long[][] terms = new long[TOP + 1][TERMS];

    private Ladder(long[] ratios) {
        this.ratios = ratios;
        for (int r = 1; r <= TOP; r++) {
            for (int n = 0; n < TERMS; n++) {
                terms[r][n] = (terms[r - 1][n] + Modular.power(ratios[r - 1], n)) % Modular.P;
            }
        }
    }

    /** The ratios 2 .. 25. */
    static Ladder small() {
        long[] ratios = new long[TOP];
        for (int i = 0; i < TOP; i++) {
            ratios[i] = i + 2;
        }
        return new Ladder(ratios);
    }

    /** Primes above 25: no two of them times one of the small ratios each are the same. */
    static Ladder primes() {
        return new Ladder(new long[] {29, 31, 37, 41, 43, 47, 53, 59, 61, 67, 71, 73, 79, 83, 89, 97, 101, 103,
            107, 109, 113, 127, 131, 137});
    }

    /** Makes the series of the order r, and two others before it when r is above 12. */
    int make(RecurrentSeries x, int r) {
        if (r <= MOST_LEAF) {
            return part(x, 0, r);
        }
        int low = part(x, 0, MOST_LEAF);
        int high = part(x, MOST_LEAF, r);
        return x.combine(low, high, 1, 1);
    }

    long term(int r, int n) {
        return terms[r][n];
    }

    long ratio(int i) {
        return ratios[i];
    }

    private int part(RecurrentSeries x, int from, int to) {
        long[] some = Arrays.copyOfRange(ratios, from, to);
        long[] weights = new long[some.length];
        Arrays.fill(weights, 1);
        return Make.powers(x, some, weights);
    }
}
