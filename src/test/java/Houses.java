/** Houses that the tests begin with. */
final class Houses {
    private Houses() {
    }

    /** People with these budgets, and so many questions. */
    static DearVotes of(int questions, int... budgets) {
        DearVotes x = new DearVotes();
        for (int budget : budgets) {
            x.person(budget);
        }
        for (int q = 0; q < questions; q++) {
            x.question();
        }
        return x;
    }

    /** So many people without a budget, and so many projects. */
    static DearVotes ofGivers(int people, int projects) {
        DearVotes x = of(0, new int[people]);
        for (int j = 0; j < projects; j++) {
            x.project();
        }
        return x;
    }

    static void votes(DearVotes x, int p, int... voices) {
        for (int q = 0; q < voices.length; q++) {
            x.vote(p, q, voices[q]);
        }
    }

    static void worths(DearVotes x, int p, int... worths) {
        for (int q = 0; q < worths.length; q++) {
            x.worth(p, q, worths[q]);
        }
    }

    static void gifts(DearVotes x, int j, int... gifts) {
        for (int p = 0; p < gifts.length; p++) {
            x.gift(p, j, gifts[p]);
        }
    }
}
