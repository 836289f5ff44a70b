/** Collects the answers that are not as due, and ends the test with exit code 1 if there was one. */
final class Check {
    private final String name;
    private String sentence = "";
    private int askedForSentence = 1;
    private int sentences;
    private int asked;
    private int wrong;

    Check(String name) {
        this.name = name;
    }

    /** Names the sentence of the document that is tested from here on. */
    void sentence(String words) {
        endSentence();
        sentence = ", '" + words + "'";
        askedForSentence = 0;
        sentences++;
    }

    void due(String call, long got, long want) {
        asked++;
        askedForSentence++;
        if (got != want) {
            wrong++;
            System.out.println(name + sentence + ": " + call + " answered " + got + ", due is " + want);
        }
    }

    void due(String call, boolean got, boolean want) {
        due(call, got ? 1 : 0, want ? 1 : 0);
    }

    /** Asks that the first terms of series k are these; a negative number stands for its remainder. */
    void terms(RecurrentSeries x, int k, long... want) {
        for (int n = 0; n < want.length; n++) {
            due("term(" + k + ", " + n + ")", x.term(k, n), Math.floorMod(want[n], Modular.P));
        }
    }

    /** Asks that series k has just these coefficients. */
    void recurrence(RecurrentSeries x, int k, long... want) {
        due("order(" + k + ")", x.order(k), want.length);
        for (int i = 1; i <= want.length; i++) {
            due("coefficient(" + k + ", " + i + ")", x.coefficient(k, i), Math.floorMod(want[i - 1], Modular.P));
        }
        due("coefficient past the order", x.coefficient(k, want.length + 1), RecurrentSeries.BAD);
    }

    int asked() {
        return asked;
    }

    void end() {
        endSentence();
        String of = sentences == 0 ? "" : " for " + sentences + " sentences";
        System.out.println(name + ": " + asked + " answers" + of + ", " + wrong + " not as due");
        if (wrong != 0) {
            System.exit(1);
        }
    }

    /** A sentence for which nothing was asked is not tested. */
    private void endSentence() {
        if (askedForSentence == 0) {
            wrong++;
            System.out.println(name + sentence + ": nothing was asked");
        }
    }
}
