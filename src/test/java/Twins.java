/** A refused call must change nothing: it is made on one of two objects that have the same past. */
final class Twins {
    private Twins() {
    }

    interface Past {
        void make(RecurrentSeries x);
    }

    interface Call {
        int on(RecurrentSeries x);
    }

    static void refused(Check check, String name, Past past, Call call, int want) {
        RecurrentSeries x = new RecurrentSeries();
        RecurrentSeries untouched = new RecurrentSeries();
        past.make(x);
        past.make(untouched);
        check.due(name, call.on(x), want);
        check.due(name + ", changing nothing", Told.of(x).equals(Told.of(untouched)), true);
    }
}
