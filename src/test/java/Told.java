import java.util.ArrayList;
import java.util.List;

/** All that the face tells of an object's state. The object is spent by it. */
final class Told {
    private final RecurrentSeries x;
    private final List<Integer> answers = new ArrayList<>();

    private Told(RecurrentSeries x) {
        this.x = x;
    }

    static List<Integer> of(RecurrentSeries x) {
        Told told = new Told(x);
        int count = x.count();
        told.answers.add(count);
        told.list(count);
        told.row(count);
        return told.answers;
    }

    private void list(int count) {
        for (int k = 0; k < count; k++) {
            series(k);
        }
    }

    private void series(int k) {
        int order = x.order(k);
        answers.add(order);
        for (int i = 1; i <= order; i++) {
            answers.add(x.coefficient(k, i));
            answers.add(x.term(k, i - 1));
        }
        answers.add(x.term(k, order));
    }

    /** The numbers of a row come to light as the coefficients and the terms of a leaf. */
    private void row(int count) {
        for (int left = count - 1; left >= 0; left--) {
            x.forget();
            answers.add(x.count());
        }
        for (int r = 12; r >= 0 && x.count() == 0; r--) {
            answers.add(x.leaf(r));
        }
        if (x.count() == 1) {
            series(0);
        }
        answers.add(x.clear());
    }
}
