/** The terms of projects, gifts, bonds, the match, the pot, likeness, and refusals. */
final class EdgesOfTermsGifts extends Edges {
    EdgesOfTermsGifts(Checks checks, Sentences sentences) {
        super(checks, sentences);
    }

    @Override
    void run() {
        mostProjects();
        giftsOfThoseAbsent();
        giftBounds();
        giftsAtFirst();
        bondBounds();
        bondsAtFirst();
        rootOfSquares();
        matchLow();
        matchHigh();
        matchHighOfSquares();
        matchedOfAllPairs();
        matchedRoundedDown();
        matchedRoundedUp();
        potRoundedDown();
        potByGreatestRests();
        potToLeastProject();
        potOfNothing();
        likenessRoundedDown();
        likenessBelow();
        likenessNone();
        refusalUnknown();
        refusalOutside();
        refusalState();
        refusalFull();
        refusalsFirst();
        refusalsChangeNothing();
    }

    private void mostProjects() {
        says("Terms", "PROJECTS (6 at most) get GIFTS");
        DearVotes x = Houses.of(0, 0, 0);
        for (int j = 0; j < 6; j++) {
            due("project()", x.project(), j);
        }
        refused(x, "the 7th", x::project, -104);
        due("count(2)", x.count(2), 6);
        due("a gift to the 6th", x.gift(1, 5, 3), 0);
    }

    private void giftsOfThoseAbsent() {
        says("Terms", ": of each PERSON (HERE or not)");
        DearVotes x = Houses.ofGivers(2, 1);
        Houses.gifts(x, 0, 9, 4);
        x.here(0, false);
        matches("one ABSENT", x, 0, 12, 12);
        x.here(1, false);
        matches("both ABSENT", x, 0, 12, 12);
        due("gift(0, 0, 16) of one who is ABSENT", x.gift(0, 0, 16), 9);
        matches("both ABSENT, another gift", x, 0, 16, 16);
        shares("both ABSENT", x, 7, 7);
    }

    private void giftBounds() {
        says("Terms", "a whole number, 0 to 1000000");
        DearVotes x = Houses.ofGivers(2, 1);
        due("1000000", x.gift(0, 0, 1000000), 0);
        refused(x, "1000001", () -> x.gift(0, 0, 1000001), -102);
        refused(x, "-1", () -> x.gift(0, 0, -1), -102);
        due("0", x.gift(0, 0, 0), 1000000);
        refused(x, "-1, where it is 0", () -> x.gift(0, 0, -1), -102);
        due("it was 0", x.gift(0, 0, 1), 0);
    }

    private void giftsAtFirst() {
        says("Terms", "a whole number, 0 to 1000000 (0 at first)");
        DearVotes x = full(0);
        for (int p = 0; p < 12; p++) {
            for (int j = 0; j < 6; j++) {
                due("gift(" + p + ", " + j + ", 1)", x.gift(p, j, 1), 0);
            }
        }
        DearVotes later = Houses.ofGivers(1, 1);
        later.gift(0, 0, 3);
        later.person(0);
        later.project();
        due("of a later person", later.gift(1, 0, 1), 0);
        due("to a later project", later.gift(0, 1, 1), 0);
    }

    private void bondBounds() {
        says("Terms", "BONDS between two PEOPLE are thousandths, 0 to 1000");
        DearVotes x = Houses.ofGivers(2, 1);
        Houses.gifts(x, 0, 500, 500);
        refused(x, "1001", () -> x.bond(0, 1, 1001), -102);
        refused(x, "-1", () -> x.bond(0, 1, -1), -102);
        due("0", x.bond(0, 1, 0), 1000);
        matches("no bond", x, 0, 0, 0);
        refused(x, "-1, where it is 0", () -> x.bond(1, 0, -1), -102);
        due("1", x.bond(0, 1, 1), 0);
        matches("a thousandth of 1000", x, 0, 1, 1);
        due("999", x.bond(1, 0, 999), 1);
        matches("all but a thousandth", x, 0, 999, 999);
        due("1000", x.bond(1, 0, 1000), 999);
        matches("a whole bond", x, 0, 1000, 1000);
    }

    private void bondsAtFirst() {
        says("Terms", "BONDS between two PEOPLE are thousandths, 0 to 1000 (1000 at first)");
        DearVotes x = full(0);
        for (int p = 0; p < 12; p++) {
            for (int r = 0; r < p; r++) {
                due("bond(" + p + ", " + r + ", 1)", x.bond(p, r, 1), 1000);
            }
        }
        DearVotes later = Houses.ofGivers(2, 0);
        later.bond(0, 1, 3);
        later.person(0);
        due("with a later person", later.bond(0, 2, 4), 1000);
        due("of a later person", later.bond(2, 1, 5), 1000);
    }

    private void rootOfSquares() {
        says("Terms", "ROOT of x: the greatest whole number whose square is at most x.");
        DearVotes x = Houses.ofGivers(2, 1);
        matches("0", x, 0, 0, 0);
        Houses.gifts(x, 0, 1, 1);
        matches("65536 is the square of 256", x, 0, 2, 2);
        // 65536 times 22 lies above the square of 1200: 320 times 1200 by 128000 is just 3.
        Houses.gifts(x, 0, 22, 1);
        x.bond(0, 1, 320);
        due("1200 exactly", x.matched(0, 0), 3);
        // 65536 times 61 lies below the square of 2000: 64 times 2000 by 128000 is just 1.
        Houses.gifts(x, 0, 61, 1);
        x.bond(0, 1, 64);
        due("not 2000 yet", x.matched(0, 0), 0);
        x.bond(0, 1, 1000);
        Houses.gifts(x, 0, 1000000, 1000000);
        matches("the greatest there may be", x, 0, 2000000, 2000000);
        Houses.gifts(x, 0, 1000000, 999999);
        matches("the next one", x, 0, 1999998, 1999999);
        Houses.gifts(x, 0, 999999, 999999);
        matches("the next square", x, 0, 1999998, 1999998);
    }

    private void matchLow() {
        says("Terms", "The MATCH of two GIFTS a, b of a PROJECT, with BOND k: between LOW, k times"
            + " ROOT of 65536 a b,");
        DearVotes x = Houses.ofGivers(2, 2);
        Houses.gifts(x, 0, 0, 1000000);
        matches("a is 0", x, 0, 0, 0);
        Houses.gifts(x, 0, 1000000, 0);
        matches("b is 0", x, 0, 0, 0);
        Houses.gifts(x, 0, 1, 1000000);
        matches("1 and 1000000", x, 0, 2000, 2000);
        Houses.gifts(x, 1, 1000000, 1);
        matches("1000000 and 1", x, 1, 2000, 2000);
        x.bond(0, 1, 1);
        matches("k is 1", x, 0, 2, 2);
        x.bond(0, 1, 0);
        matches("k is 0", x, 0, 0, 0);
    }

    private void matchHigh() {
        says("Terms", "and HIGH, k times that and k");
        DearVotes x = Houses.ofGivers(2, 1);
        // ROOT of 65536 times 61 is 1999: 64 times 2000 by 128000 is just 1, and not more.
        Houses.gifts(x, 0, 61, 1);
        x.bond(0, 1, 64);
        matches("1999 and 1", x, 0, 0, 1);
        x.bond(0, 1, 640);
        matches("ten times that", x, 0, 9, 10);
        x.bond(0, 1, 0);
        matches("k is 0", x, 0, 0, 0);
        x.bond(0, 1, 1);
        matches("k is 1", x, 0, 0, 1);
        DearVotes three = Houses.ofGivers(3, 1);
        three.bond(0, 1, 64);
        three.bond(0, 2, 64);
        three.bond(1, 2, 0);
        Houses.gifts(three, 0, 61, 1, 1);
        matches("k for each pair", three, 0, 1, 2);
    }

    private void matchHighOfSquares() {
        says("Terms", "(just LOW, if it is the square of a whole number: 65536 a b)");
        DearVotes x = Houses.ofGivers(2, 1);
        int[][] squares = {{1, 2, 2}, {4, 4, 4}, {9, 6, 6}, {16, 8, 8}, {2, 2, 3}, {3, 3, 4},
            {5, 4, 5}, {8, 5, 6}, {10, 6, 7}, {15, 7, 8}, {17, 8, 9}, {0, 0, 0},
            {1000000, 2000, 2000}, {999999, 1999, 2000}};
        for (int[] square : squares) {
            Houses.gifts(x, 0, 1, square[0]);
            matches("1 and " + square[0], x, 0, square[1], square[2]);
        }
        Houses.gifts(x, 0, 2, 8);
        matches("2 and 8 make a square", x, 0, 8, 8);
        Houses.gifts(x, 0, 999999, 999999);
        matches("a great one twice", x, 0, 1999998, 1999998);
    }

    private void matchedOfAllPairs() {
        says("Terms", "MATCHED of a PROJECT, LOW (side 0) and HIGH (side 1): the sum over all pairs"
            + " of PEOPLE, times 2, by 256000");
        DearVotes nobody = Houses.ofGivers(0, 1);
        matches("nobody there yet", nobody, 0, 0, 0);
        DearVotes one = Houses.ofGivers(1, 1);
        one.gift(0, 0, 1000000);
        matches("no pair yet", one, 0, 0, 0);
        DearVotes x = full(0);
        matches("no gifts yet", x, 5, 0, 0);
        for (int p = 0; p < 12; p++) {
            x.gift(p, 5, 1000000);
            matches("pairs of " + (p + 1), x, 5, (p + 1) * p * 1000000L, (p + 1) * p * 1000000L);
        }
        matches("the other project", x, 0, 0, 0);
        int[] primes = {2, 3, 5, 7, 11, 13, 17, 19, 23, 29, 31, 37};
        Houses.gifts(x, 0, primes);
        matches("66 pairs of no square", x, 0, 1851, 1853);
        for (int p = 0; p < 12; p++) {
            x.gift(p, 1, 1000000 - p);
        }
        matches("66 great pairs", x, 1, 131999273, 131999274);
    }

    /** Gifts 0 and 1 of one PROJECT, their BOND, and what MATCHED is due. */
    private void matchesOf(String when, int a, int b, int k, long low, long high) {
        DearVotes x = Houses.ofGivers(2, 1);
        Houses.gifts(x, 0, a, b);
        x.bond(0, 1, k);
        matches(when, x, 0, low, high);
    }

    private void matchedRoundedDown() {
        says("Terms", "rounded down (LOW)");
        matchesOf("3 and nothing", 22, 1, 320, 3, 4);
        matchesOf("4 and the least more", 112, 1, 189, 4, 5);
        matchesOf("5 less the least", 267, 1, 153, 4, 6);
        // Each pair has 2.8 LOW, and 2.8 three times is 8.4: the sum is rounded.
        DearVotes x = Houses.ofGivers(4, 1);
        Houses.gifts(x, 0, 2, 1, 1, 1);
        x.bond(1, 2, 0);
        x.bond(1, 3, 0);
        x.bond(2, 3, 0);
        due("the sum, not each", x.matched(0, 0), 8);
    }

    private void matchedRoundedUp() {
        says("Terms", ", up (HIGH)");
        matchesOf("1 and nothing", 61, 1, 64, 0, 1);
        matchesOf("31 and the least more", 338, 1, 843, 30, 32);
        matchesOf("14 less the least", 85, 1, 759, 13, 14);
        // Each pair has 2.83 HIGH, and that three times is 8.5: the sum is rounded.
        DearVotes x = Houses.ofGivers(4, 1);
        Houses.gifts(x, 0, 2, 1, 1, 1);
        x.bond(1, 2, 0);
        x.bond(1, 3, 0);
        x.bond(2, 3, 0);
        due("the sum, not each", x.matched(0, 1), 9);
    }

    /** So many projects whose MATCHED LOW are twice these. */
    private static DearVotes pot(int... halves) {
        DearVotes x = Houses.ofGivers(2, halves.length);
        for (int j = 0; j < halves.length; j++) {
            Houses.gifts(x, j, halves[j], halves[j]);
        }
        return x;
    }

    private void potRoundedDown() {
        says("Terms", "THE POT P is shared: PROJECT j gets P times MATCHED LOW of it by the sum of"
            + " all these, rounded down");
        shares("nothing to share", pot(1, 2), 0, 0, 0);
        shares("no rest", pot(1, 4), 10, 2, 8);
        shares("the only one", pot(7), 1000000000L, 1000000000L);
        shares("a project without a match", pot(0, 3), 1000000000L, 0, 1000000000L);
        DearVotes x = full(0);
        for (int p = 0; p < 12; p++) {
            x.gift(p, 0, 1000000);
        }
        x.gift(0, 1, 1);
        x.gift(1, 1, 1);
        shares("the greatest", x, 1000000000L, 999999985L, 15, 0, 0, 0, 0);
    }

    private void potByGreatestRests() {
        says("Terms", "what lacks to P, one by one, by the greatest rests");
        shares("one unit to the greatest", pot(1, 3, 2), 1, 0, 1, 0);
        // Of 5: 0.83, 2.5 and 1.67: 2 lack.
        shares("two units to two", pot(1, 3, 2), 5, 1, 2, 2);
        shares("all but one", pot(1, 2, 3, 4, 5, 6), 1000000000L,
            47619048, 95238095, 142857143, 190476190, 238095238, 285714286);
        shares("of the next pot", pot(1, 2, 3, 4, 5, 6), 999999999L,
            47619048, 95238095, 142857143, 190476190, 238095238, 285714285);
        DearVotes x = pot(3, 1, 4, 1, 5, 9);
        for (int pot = 0; pot <= 46; pot++) {
            long sum = 0;
            for (int j = 0; j < 6; j++) {
                sum += x.share(j, pot);
            }
            due("to the last unit of " + pot, sum, pot);
        }
    }

    private void potToLeastProject() {
        says("Terms", "(of like ones the least PROJECT first)");
        DearVotes x = pot(4, 4, 4, 4, 4, 4);
        shares("one of six", x, 1, 1, 0, 0, 0, 0, 0);
        shares("five of six", x, 5, 1, 1, 1, 1, 1, 0);
        shares("six of six", x, 6, 1, 1, 1, 1, 1, 1);
        shares("seven of six", x, 7, 2, 1, 1, 1, 1, 1);
        shares("of the greatest", x, 1000000000L,
            166666667, 166666667, 166666667, 166666667, 166666666, 166666666);
        // Of 4: 0.8, 1.6, 1.6. Of 1: 0.2, 0.4, 0.4.
        shares("the greatest, then the first of like ones", pot(1, 2, 2), 4, 1, 2, 1);
        shares("the first of like ones, not the first of all", pot(1, 2, 2), 1, 0, 1, 0);
    }

    private void potOfNothing() {
        says("Terms", "if that sum is 0: nobody gets anything");
        DearVotes x = full(0);
        shares("no gifts", x, 1000000000L, 0, 0, 0, 0, 0, 0);
        x.gift(0, 2, 1000000);
        x.gift(1, 3, 1000000);
        shares("no pairs", x, 1000000000L, 0, 0, 0, 0, 0, 0);
        x.gift(1, 2, 1000000);
        x.bond(0, 1, 0);
        shares("no bonds", x, 1, 0, 0, 0, 0, 0, 0);
        x.gift(0, 2, 1);
        x.gift(1, 2, 1);
        x.bond(0, 1, 499);
        matches("LOW is rounded down to 0", x, 2, 0, 1);
        shares("no MATCHED LOW", x, 1000000000L, 0, 0, 0, 0, 0, 0);
        x.bond(0, 1, 500);
        shares("MATCHED LOW of 1", x, 1000000000L, 0, 0, 1000000000L, 0, 0, 0);
        DearVotes nobody = Houses.ofGivers(0, 1);
        shares("nobody there yet", nobody, 1000000000L, 0);
    }

    /** LIKENESS of two who have these VOICES, either way. */
    private void likes(String when, int[] a, int[] b, int want) {
        DearVotes x = Houses.of(a.length, 2000, 2000);
        Houses.votes(x, 0, a);
        Houses.votes(x, 1, b);
        due(when, x.likeness(0, 1), want);
        due(when + ", turned round", x.likeness(1, 0), want);
    }

    private void likenessRoundedDown() {
        says("Terms", "LIKENESS of two PEOPLE: the sum over QUESTIONS of products of their VOICES;"
            + " squared, times 1000, by the product of their COSTS, rounded down");
        likes("the greatest", new int[] {40, 20}, new int[] {40, 20}, 1000);
        likes("as like, at other COST", new int[] {1, 2}, new int[] {20, 40}, 1000);
        likes("just below the greatest", new int[] {30, 31}, new int[] {31, 32}, 999);
        likes("less than a thousandth", new int[] {1, 0}, new int[] {1, 40}, 0);
        likes("just a thousandth", new int[] {1, 0, 0, 0, 0}, new int[] {1, 30, 9, 3, 3}, 1);
        likes("the sum is 0", new int[] {3, 4}, new int[] {-4, 3}, 0);
        likes("all six", new int[] {18, 18, 18, 18, 18, 18}, new int[] {1, 1, 1, 1, 1, 1}, 1000);
    }

    private void likenessBelow() {
        says("Terms", "as much below 0 if that sum is below 0");
        likes("the least", new int[] {40, 20}, new int[] {-40, -20}, -1000);
        likes("just above the least", new int[] {30, 31}, new int[] {-31, -32}, -999);
        likes("less than a thousandth", new int[] {1, 0}, new int[] {-1, 40}, 0);
        likes("just a thousandth", new int[] {-1, 0, 0, 0, 0}, new int[] {1, 30, 9, 3, 3}, -1);
        likes("a half", new int[] {-1, 0}, new int[] {1, 1}, -500);
    }

    private void likenessNone() {
        says("Terms", "NONE (-2000), if a COST is 0");
        likes("of one", new int[] {0, 0}, new int[] {40, 20}, -2000);
        likes("of both", new int[] {0, 0}, new int[] {0, 0}, -2000);
        likes("a COST of 1 is none of 0", new int[] {1, 0}, new int[] {1, 0}, 1000);
        likes("no QUESTIONS", new int[] {}, new int[] {}, -2000);
        DearVotes x = Houses.of(1, 9);
        due("with itself", x.likeness(0, 0), -2000);
        x.vote(0, 0, -1);
        due("with itself, of COST 1", x.likeness(0, 0), 1000);
    }

    private void refusalUnknown() {
        says("Terms", "UNKNOWN (a number names nothing)");
        DearVotes x = Houses.of(1, 9, 9);
        due("the last one", x.cost(1), 0);
        for (int p : new int[] {-1, 2, 11, 12, MIN, MAX}) {
            refused(x, "cost(" + p + ")", () -> x.cost(p), -101);
        }
        due("the constant", DearVotes.UNKNOWN, -101);
    }

    private void refusalOutside() {
        says("Terms", "OUTSIDE (it is not as told)");
        DearVotes x = Houses.of(1, 9, 9);
        for (int n : new int[] {0, 31, -1, MIN, MAX}) {
            refused(x, "play(" + n + ")", () -> x.play(n), -102);
        }
        due("the constant", DearVotes.OUTSIDE, -102);
    }

    private void refusalState() {
        says("Terms", "STATE (as told)");
        DearVotes x = Houses.of(1, 9);
        x.worth(0, 0, 5);
        x.here(0, false);
        refused(x, "take(0) of one who is ABSENT", () -> x.take(0), -103);
        refused(x, "vote(0, 0, 4) of 9", () -> x.vote(0, 0, 4), -103);
        due("the constant", DearVotes.STATE, -103);
        due("the constant NONE", DearVotes.NONE, -1);
    }

    private void refusalFull() {
        says("Terms", ", FULL;");
        DearVotes x = full(0);
        refused(x, "person(0)", () -> x.person(0), -104);
        refused(x, "question()", x::question, -104);
        refused(x, "project()", x::project, -104);
        due("the constant", DearVotes.FULL, -104);
    }

    private void refusalsFirst() {
        says("Terms", "Refusals, of several the first as told by each call");
        DearVotes x = full(9);
        refused(x, "person: OUTSIDE, FULL", () -> x.person(2001), -102);
        refused(x, "vote: UNKNOWN, OUTSIDE", () -> x.vote(12, 0, 41), -101);
        refused(x, "vote: UNKNOWN q, OUTSIDE", () -> x.vote(0, 6, -41), -101);
        refused(x, "vote: OUTSIDE, STATE", () -> x.vote(0, 0, 41), -102);
        refused(x, "worth: UNKNOWN, OUTSIDE", () -> x.worth(0, 6, 1001), -101);
        refused(x, "gift: UNKNOWN, OUTSIDE", () -> x.gift(12, 0, -1), -101);
        refused(x, "bond: UNKNOWN, OUTSIDE for k", () -> x.bond(0, 12, 1001), -101);
        refused(x, "bond: UNKNOWN, OUTSIDE for p is r", () -> x.bond(12, 12, 1), -101);
        refused(x, "matched: UNKNOWN, OUTSIDE", () -> x.matched(6, 2), -101);
        refused(x, "share: UNKNOWN, OUTSIDE", () -> x.share(6, -1), -101);
        refused(x, "group: UNKNOWN, OUTSIDE", () -> x.group(12, 0), -101);
        refused(x, "likeness: UNKNOWN, NONE", () -> x.likeness(0, 12), -2001);
    }

    private void refusalsChangeNothing() {
        says("Terms", "they change nothing");
        DearVotes x = EdgesOfTermsPlay.ringOfTwo();
        x.project();
        x.gift(0, 0, 9);
        x.gift(1, 0, 4);
        x.play(30);
        refused(x, "person(2001)", () -> x.person(2001), -102);
        refused(x, "vote(0, 0, 3)", () -> x.vote(0, 0, 3), -103);
        refused(x, "vote(0, 0, 41)", () -> x.vote(0, 0, 41), -102);
        refused(x, "worth(0, 0, 1001)", () -> x.worth(0, 0, 1001), -102);
        refused(x, "here(2, false)", () -> x.here(2, false), -101);
        refused(x, "take(2)", () -> x.take(2), -101);
        refused(x, "play(31)", () -> x.play(31), -102);
        refused(x, "gift(0, 0, 1000001)", () -> x.gift(0, 0, 1000001), -102);
        refused(x, "bond(0, 1, 1001)", () -> x.bond(0, 1, 1001), -102);
        holds("as ahead of all", x, 0, 2, 1);
        holds("as ahead of all", x, 1, 0, -1);
        matches("as ahead of all", x, 0, 12, 12);
        due("ended()", x.ended(), 2);
        due("ring()", x.ring(), 2);
        due("worth(0, 0, 3)", x.worth(0, 0, 3), 3);
        due("here(0, true)", x.here(0, true), 1);
        due("gift(0, 0, 9)", x.gift(0, 0, 9), 9);
        due("bond(0, 1, 1000)", x.bond(0, 1, 1000), 1000);
        due("person(5)", x.person(5), 2);
    }
}
