import java.util.function.LongSupplier;

/** Tests of boundary cases: each begins with the words of the document that name the case. */
abstract class Edges {
    static final int MIN = Integer.MIN_VALUE;
    static final int MAX = Integer.MAX_VALUE;

    private final Checks checks;
    private final Sentences sentences;

    Edges(Checks checks, Sentences sentences) {
        this.checks = checks;
        this.sentences = sentences;
    }

    abstract void run();

    /** The test that calls this is of these words, under this heading of the document. */
    final void says(String heading, String words) {
        sentences.quote(heading, words);
        checks.at(heading + ", '" + words + "': ");
    }

    final void due(String call, long got, long want) {
        checks.due(call, got, want);
    }

    final void refused(DearVotes x, String call, LongSupplier made, long want) {
        checks.refused(x, call, made, want);
    }

    /** 12 PEOPLE of this BUDGET, 6 QUESTIONS, 6 PROJECTS. */
    static DearVotes full(int budget) {
        DearVotes x = new DearVotes();
        for (int p = 0; p < 12; p++) {
            x.person(budget);
        }
        for (int i = 0; i < 6; i++) {
            x.question();
            x.project();
        }
        return x;
    }

    final void holds(String when, DearVotes x, int p, int... voices) {
        for (int q = 0; q < voices.length; q++) {
            due(when + ": voices(" + p + ", " + q + ")", x.voices(p, q), voices[q]);
        }
    }

    final void bests(String when, DearVotes x, int p, int gain, int... voices) {
        due(when + ": best(" + p + ")", x.best(p), gain);
        for (int q = 0; q < voices.length; q++) {
            due(when + ": answer(" + p + ", " + q + ")", x.answer(p, q), voices[q]);
        }
    }

    final void matches(String when, DearVotes x, int j, long low, long high) {
        due(when + ": matched(" + j + ", 0)", x.matched(j, 0), low);
        due(when + ": matched(" + j + ", 1)", x.matched(j, 1), high);
    }

    final void shares(String when, DearVotes x, long pot, long... dues) {
        for (int j = 0; j < dues.length; j++) {
            due(when + ": share(" + j + ", " + pot + ")", x.share(j, pot), dues[j]);
        }
    }
}
