/** A call that makes a series out of the series j and k, or out of j alone. */
record Maker(String name, boolean two, Call call) {
    interface Call {
        int on(RecurrentSeries x, int j, int k);
    }

    static final Maker[] ALL = {
        new Maker("combine", true, (x, j, k) -> x.combine(j, k, 2, 3)),
        new Maker("product", true, (x, j, k) -> x.product(j, k)),
        new Maker("pairwise", true, (x, j, k) -> x.pairwise(j, k)),
        new Maker("derivative", false, (x, j, k) -> x.derivative(j)),
        new Maker("tail", false, (x, j, k) -> x.tail(j)),
        new Maker("delay", false, (x, j, k) -> x.delay(j)),
        new Maker("sums", false, (x, j, k) -> x.sums(j)),
        new Maker("section", false, (x, j, k) -> x.section(j, 24, 1000)),
        new Maker("spread", false, (x, j, k) -> x.spread(j, 2))};

    int make(RecurrentSeries x, int j, int k) {
        return call.on(x, j, k);
    }

    /** Whether its bound is above 24 for series of the order 24; the others' bound is the order. */
    boolean isLongForLongest() {
        return !name.equals("tail") && !name.equals("section");
    }
}
