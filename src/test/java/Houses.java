/** Houses that the tests begin with. */
final class Houses {
    /** Two who always better each other by one voice, till 40 answers -40: REST in ROUND 22. */
    static final int[][] RACE = {{1600, 1600}, {5}, {-5}};

    /**
     * Behind its rounds 1 to 4 the voices are (1, 1) (-1, 0), (2, 1) (0, -1), (1, 2) (-1, 0),
     * and, as behind round 2, (2, 1) (0, -1).
     */
    static final int[][] RING_OF_TWO = {{5, 1}, {3, 3}, {-3, -2}};

    /** The longest RING that one PLAY can see, once it is in it. */
    static final int[][] RING_OF_THIRTY = {
        {191, 119, 183, 78, 4}, {-3, 5}, {2, -5}, {-3, 4}, {2, -4}, {-3, -4}};

    /** It comes to REST in the 30th ROUND. */
    static final int[][] REST_AT_THIRTY = {
        {1272, 583, 270, 1934, 144}, {1}, {1}, {-1}, {-1}, {1}};

    /** Behind its 2nd ROUND all counts are as behind the 1st, and not all voices. */
    static final int[][] LIKE_COUNTS = {{34, 37}, {3, 1}, {-2, -1}};

    /** Behind its 15th ROUND all costs are as behind the 12th, and not all voices. */
    static final int[][] LIKE_COSTS = {{12, 23, 25}, {-4, -1}, {-3, -4}, {2, 1}};

    private Houses() {
    }

    /** The first row has the budgets, and each other row the worths of one person. */
    static DearVotes ofWorths(int[][] rows) {
        DearVotes x = of(rows[1].length, rows[0]);
        for (int p = 0; p < rows[0].length; p++) {
            worths(x, p, rows[p + 1]);
        }
        return x;
    }

    /** People with these budgets, and so many questions. */
    static DearVotes of(int questions, int... budgets) {
        DearVotes x = new DearVotes();
        for (int budget : budgets) {
            x.person(budget);
        }
        for (int q = 0; q < questions; q++) {
            x.question();
        }
        return x;
    }

    /** So many people without a budget, and so many projects. */
    static DearVotes ofGivers(int people, int projects) {
        DearVotes x = of(0, new int[people]);
        for (int j = 0; j < projects; j++) {
            x.project();
        }
        return x;
    }

    static void votes(DearVotes x, int p, int... voices) {
        for (int q = 0; q < voices.length; q++) {
            x.vote(p, q, voices[q]);
        }
    }

    static void worths(DearVotes x, int p, int... worths) {
        for (int q = 0; q < worths.length; q++) {
            x.worth(p, q, worths[q]);
        }
    }

    static void gifts(DearVotes x, int j, int... gifts) {
        for (int p = 0; p < gifts.length; p++) {
            x.gift(p, j, gifts[p]);
        }
    }
}
