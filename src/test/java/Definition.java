/** What the document says that each maker makes: its terms out of theirs, its bound out of their orders. */
final class Definition {
    private Definition() {
    }

    interface Terms {
        long at(long n);
    }

    /** The term n of what the maker, as it stands in Maker.ALL, makes out of a (and b). */
    static long term(Maker maker, Terms a, Terms b, long n) {
        long term = switch (maker.name()) {
            case "combine" -> 2 * a.at(n) + 3 * b.at(n);
            case "product" -> convolved(a, b, n);
            case "pairwise" -> a.at(n) * b.at(n);
            case "derivative" -> (n + 1) % Modular.P * a.at(n + 1);
            case "tail" -> a.at(n + 1);
            case "delay" -> n == 0 ? 0 : a.at(n - 1);
            case "sums" -> summed(a, n);
            case "section" -> a.at(24 * n + 1000);
            case "spread" -> n % 2 == 0 ? a.at(n / 2) : 0;
            default -> throw new IllegalArgumentException(maker.name());
        };
        return Math.floorMod(term, Modular.P);
    }

    static int bound(Maker maker, int a, int b) {
        return switch (maker.name()) {
            case "combine", "product" -> a + b;
            case "pairwise" -> a * b;
            case "derivative", "spread" -> 2 * a;
            case "tail", "section" -> a;
            case "delay", "sums" -> a + 1;
            default -> throw new IllegalArgumentException(maker.name());
        };
    }

    private static long convolved(Terms a, Terms b, long n) {
        long sum = 0;
        for (long i = 0; i <= n; i++) {
            sum = (sum + a.at(i) * b.at(n - i)) % Modular.P;
        }
        return sum;
    }

    private static long summed(Terms a, long n) {
        long sum = 0;
        for (long i = 0; i <= n; i++) {
            sum += a.at(i);
        }
        return sum;
    }
}
