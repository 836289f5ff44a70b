import java.math.BigInteger;

/** Slow and plain arithmetic modulo P, kept apart from what the program does. */
final class Modular {
    static final long P = 2147483647L;

    private Modular() {
    }

    static long power(long base, long exponent) {
        return BigInteger.valueOf(base).modPow(BigInteger.valueOf(exponent), BigInteger.valueOf(P)).longValue();
    }

    static long inverse(long a) {
        return BigInteger.valueOf(a).modInverse(BigInteger.valueOf(P)).longValue();
    }

    /** Brings the rows of the matrix to reduced steps in place; answers the rank. */
    static int eliminate(long[][] matrix, int columns) {
        int rank = 0;
        for (int column = 0; column < columns && rank < matrix.length; column++) {
            int pivot = rank;
            while (pivot < matrix.length && matrix[pivot][column] == 0) {
                pivot++;
            }
            if (pivot == matrix.length) {
                continue;
            }
            long[] chosen = matrix[pivot];
            matrix[pivot] = matrix[rank];
            matrix[rank] = chosen;
            long inverse = inverse(chosen[column]);
            for (int i = 0; i < chosen.length; i++) {
                chosen[i] = chosen[i] * inverse % P;
            }
            for (long[] other : matrix) {
                long factor = other[column];
                if (other != chosen && factor != 0) {
                    for (int i = 0; i < other.length; i++) {
                        other[i] = Math.floorMod(other[i] - factor * chosen[i], P);
                    }
                }
            }
            rank++;
        }
        return rank;
    }

    /** The only solution of a square system; the right side is the last column. */
    static long[] solve(long[][] system) {
        int size = system.length;
        if (eliminate(system, size) != size) {
            throw new IllegalArgumentException("no single solution");
        }
        long[] solution = new long[size];
        for (int i = 0; i < size; i++) {
            solution[i] = system[i][size];
        }
        return solution;
    }

    static long[][] times(long[][] a, long[][] b) {
        long[][] c = new long[a.length][b[0].length];
        for (int i = 0; i < a.length; i++) {
            for (int k = 0; k < b.length; k++) {
                for (int j = 0; j < b[0].length; j++) {
                    c[i][j] = (c[i][j] + a[i][k] * b[k][j]) % P;
                }
            }
        }
        return c;
    }
}
