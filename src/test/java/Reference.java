import java.util.ArrayList;
import java.util.List;
import java.util.function.IntToLongFunction;

/**
 * The document's calls once more, by other ways than the program's: recurrences come from
 * elimination in matrices, far terms from powers of matrices, and every bound is looked after.
 */
final class Reference {
    private static final int MORE = 20;

    private final List<Long> row = new ArrayList<>();
    private final List<Endless> list = new ArrayList<>();

    /** A series by its least recurrence; its terms are written down as far as they are asked for. */
    private static final class Endless {
        private final long[] c;
        private final List<Long> terms = new ArrayList<>();

        Endless(long[] c) {
            this.c = c;
        }

        long at(int n) {
            while (terms.size() <= n) {
                long sum = 0;
                for (int i = 1; i <= c.length; i++) {
                    sum = (sum + c[i - 1] * terms.get(terms.size() - i)) % Modular.P;
                }
                terms.add(sum);
            }
            return terms.get(n);
        }
    }

    boolean give(int v) {
        return row.size() < 40 && row.add((long) Math.floorMod(v, (int) Modular.P));
    }

    int clear() {
        int had = row.size();
        row.clear();
        return had;
    }

    int leaf(int r) {
        if (r < 0 || r > 12 || row.size() < 2 * r) {
            return RecurrentSeries.BAD;
        }
        if (list.size() == 20) {
            return RecurrentSeries.FULL;
        }
        long[] c = new long[r];
        for (int i = 0; i < r; i++) {
            c[i] = row.get(i);
        }
        Endless given = new Endless(c);
        given.terms.addAll(row.subList(r, 2 * r));
        for (int n = 0; n < row.size() - r; n++) {
            if (given.at(n) != row.get(r + n)) {
                return RecurrentSeries.WRONG;
            }
        }
        row.clear();
        return add(given::at, r);
    }

    int combine(int j, int k, int x, int y) {
        if (isOutside(j) || isOutside(k)) {
            return RecurrentSeries.BAD;
        }
        Endless a = list.get(j);
        Endless b = list.get(k);
        return add(n -> Math.floorMod(x * a.at(n), Modular.P) + Math.floorMod(y * b.at(n), Modular.P),
            a.c.length + b.c.length);
    }

    int product(int j, int k) {
        if (isOutside(j) || isOutside(k)) {
            return RecurrentSeries.BAD;
        }
        Endless a = list.get(j);
        Endless b = list.get(k);
        return add(n -> {
            long sum = 0;
            for (int i = 0; i <= n; i++) {
                sum = (sum + a.at(i) * b.at(n - i)) % Modular.P;
            }
            return sum;
        }, a.c.length + b.c.length);
    }

    int pairwise(int j, int k) {
        if (isOutside(j) || isOutside(k)) {
            return RecurrentSeries.BAD;
        }
        Endless a = list.get(j);
        Endless b = list.get(k);
        return add(n -> a.at(n) * b.at(n), a.c.length * b.c.length);
    }

    int derivative(int k) {
        if (isOutside(k)) {
            return RecurrentSeries.BAD;
        }
        Endless a = list.get(k);
        return add(n -> (n + 1) * a.at(n + 1), 2 * a.c.length);
    }

    int tail(int k) {
        if (isOutside(k)) {
            return RecurrentSeries.BAD;
        }
        Endless a = list.get(k);
        return add(n -> a.at(n + 1), a.c.length);
    }

    int delay(int k) {
        if (isOutside(k)) {
            return RecurrentSeries.BAD;
        }
        Endless a = list.get(k);
        return add(n -> n == 0 ? 0 : a.at(n - 1), a.c.length + 1);
    }

    int sums(int k) {
        if (isOutside(k)) {
            return RecurrentSeries.BAD;
        }
        Endless a = list.get(k);
        return add(n -> {
            long sum = 0;
            for (int i = 0; i <= n; i++) {
                sum += a.at(i);
            }
            return sum;
        }, a.c.length + 1);
    }

    int section(int k, int m, int i) {
        if (isOutside(k) || m < 1 || m > 24 || i < 0 || i > 1000) {
            return RecurrentSeries.BAD;
        }
        Endless a = list.get(k);
        return add(n -> a.at(m * n + i), a.c.length);
    }

    int spread(int k, int m) {
        if (isOutside(k) || m < 1 || m > 24) {
            return RecurrentSeries.BAD;
        }
        Endless a = list.get(k);
        return add(n -> n % m == 0 ? a.at(n / m) : 0, m * a.c.length);
    }

    boolean forget() {
        if (list.isEmpty()) {
            return false;
        }
        list.remove(list.size() - 1);
        return true;
    }

    int count() {
        return list.size();
    }

    int order(int k) {
        return isOutside(k) ? RecurrentSeries.BAD : list.get(k).c.length;
    }

    int coefficient(int k, int i) {
        if (isOutside(k) || i < 1 || i > list.get(k).c.length) {
            return RecurrentSeries.BAD;
        }
        return (int) list.get(k).c[i - 1];
    }

    int term(int k, long n) {
        if (isOutside(k) || n < 0) {
            return RecurrentSeries.BAD;
        }
        Endless a = list.get(k);
        return n < 3000 || a.c.length == 0 ? (int) a.at((int) Math.min(n, 3000)) : (int) farTerm(a, n);
    }

    int differ(int j, int k) {
        if (isOutside(j) || isOutside(k)) {
            return -2;
        }
        for (int n = 0; n < 200; n++) {
            if (list.get(j).at(n) != list.get(k).at(n)) {
                return n;
            }
        }
        return -1;
    }

    boolean obeys(int k) {
        if (isOutside(k)) {
            return false;
        }
        for (int n = row.size(); n < 200; n++) {
            long sum = 0;
            for (int i = 1; i <= row.size(); i++) {
                sum = (sum + row.get(i - 1) * list.get(k).at(n - i)) % Modular.P;
            }
            if (sum != list.get(k).at(n)) {
                return false;
            }
        }
        return true;
    }

    /** Both obey r numbers just when the joined columns of their terms have the rank r at most. */
    int shared(int j, int k) {
        if (isOutside(j) || isOutside(k)) {
            return RecurrentSeries.BAD;
        }
        Endless a = list.get(j);
        Endless b = list.get(k);
        int size = a.c.length + b.c.length;
        long[][] matrix = new long[2 * size][size];
        for (int n = 0; n < size; n++) {
            for (int i = 0; i < size; i++) {
                matrix[n][i] = a.at(n + i);
                matrix[size + n][i] = b.at(n + i);
            }
        }
        return Modular.eliminate(matrix, size);
    }

    private boolean isOutside(int k) {
        return k < 0 || k >= list.size();
    }

    private int add(IntToLongFunction term, int bound) {
        if (list.size() == 20) {
            return RecurrentSeries.FULL;
        }
        if (bound > 24) {
            return RecurrentSeries.LONG;
        }
        long[] terms = new long[2 * bound + MORE];
        for (int n = 0; n < terms.length; n++) {
            terms[n] = Math.floorMod(term.applyAsLong(n), Modular.P);
        }
        Endless made = new Endless(leastRecurrence(terms, bound));
        for (int n = 0; n < made.c.length; n++) {
            made.terms.add(terms[n]);
        }
        for (int n = 0; n < terms.length; n++) {
            if (made.at(n) != terms[n]) {
                throw new IllegalStateException("the order is above the bound");
            }
        }
        list.add(made);
        return list.size() - 1;
    }

    private static long[] leastRecurrence(long[] terms, int bound) {
        long[][] square = new long[bound][bound];
        for (int n = 0; n < bound; n++) {
            System.arraycopy(terms, n, square[n], 0, bound);
        }
        int order = Modular.eliminate(square, bound);
        long[][] system = new long[order][order + 1];
        for (int n = 0; n < order; n++) {
            for (int i = 0; i < order; i++) {
                system[n][i] = terms[n + order - 1 - i];
            }
            system[n][order] = terms[n + order];
        }
        return Modular.solve(system);
    }

    private static long farTerm(Endless a, long n) {
        int size = a.c.length;
        long[][] step = new long[size][size];
        long[][] state = new long[size][1];
        for (int i = 0; i < size; i++) {
            state[i][0] = a.at(i);
            step[size - 1][size - 1 - i] = a.c[i];
            if (i + 1 < size) {
                step[i][i + 1] = 1;
            }
        }
        for (long left = n; left > 0; left >>= 1) {
            if ((left & 1) == 1) {
                state = Modular.times(step, state);
            }
            step = Modular.times(step, step);
        }
        return state[0][0];
    }
}
