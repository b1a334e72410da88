/** Promises 21 to 25. */
final class EdgesOfGifts extends Edges {
    EdgesOfGifts(Checks checks, Sentences sentences) {
        super(checks, sentences);
    }

    @Override
    void run() {
        giftWas();
        giftUnknown();
        giftOutside();
        bondWas();
        bondUnknown();
        bondOutsideSame();
        bondOutsideThousandths();
        matchedSides();
        matchedUnknown();
        matchedOutside();
        shareOfPot();
        shareUnknown();
        shareOutside();
        dampedByBonds();
        dampedUnknown();
    }

    private void giftWas() {
        says("Promise 21", "A GIFT of a PERSON to a PROJECT: what it was");
        DearVotes x = full(0);
        due("the first to the first", x.gift(0, 0, 1000000), 0);
        due("the last to the last", x.gift(11, 5, 1), 0);
        due("the first again", x.gift(0, 0, 0), 1000000);
        due("the last again", x.gift(11, 5, 1000000), 1);
        due("of another", x.gift(11, 0, 0), 0);
        due("to another", x.gift(0, 5, 0), 0);
    }

    private void giftUnknown() {
        says("Promise 21", "UNKNOWN: p, j");
        DearVotes x = Houses.ofGivers(3, 2);
        for (int p : new int[] {-1, 3, 12, MIN, MAX}) {
            refused(x, "gift(" + p + ", 0, 1)", () -> x.gift(p, 0, 1), -101);
        }
        for (int j : new int[] {-1, 2, 6, MIN, MAX}) {
            refused(x, "gift(0, " + j + ", 1)", () -> x.gift(0, j, 1), -101);
        }
        refused(x, "ahead of OUTSIDE", () -> x.gift(3, 0, -1), -101);
        refused(x, "ahead of OUTSIDE", () -> x.gift(0, 2, 1000001), -101);
        due("the last ones", x.gift(2, 1, 1), 0);
        DearVotes nothing = new DearVotes();
        refused(nothing, "nothing there yet", () -> nothing.gift(0, 0, 1), -101);
        DearVotes questions = Houses.of(1, 9);
        refused(questions, "no projects yet", () -> questions.gift(0, 0, 1), -101);
    }

    private void giftOutside() {
        says("Promise 21", "OUTSIDE");
        DearVotes x = Houses.ofGivers(1, 1);
        x.gift(0, 0, 7);
        for (int g : new int[] {-1, 1000001, MIN, MAX}) {
            refused(x, "gift(0, 0, " + g + ")", () -> x.gift(0, 0, g), -102);
        }
        due("0", x.gift(0, 0, 0), 7);
        due("1000000", x.gift(0, 0, 1000000), 0);
    }

    private void bondWas() {
        says("Promise 22", "The BOND of two PEOPLE: what it was");
        DearVotes x = full(0);
        due("the first and the last", x.bond(0, 11, 0), 1000);
        due("the last and the first", x.bond(11, 0, 1), 0);
        due("turned round", x.bond(0, 11, 999), 1);
        due("the greatest", x.bond(11, 0, 1000), 999);
        due("again", x.bond(0, 11, 1000), 1000);
        due("others keep theirs", x.bond(10, 11, 5), 1000);
        due("others keep theirs", x.bond(0, 10, 5), 1000);
    }

    private void bondUnknown() {
        says("Promise 22", "UNKNOWN: p, r");
        DearVotes x = Houses.ofGivers(3, 0);
        for (int p : new int[] {-1, 3, 12, MIN, MAX}) {
            refused(x, "bond(" + p + ", 0, 1)", () -> x.bond(p, 0, 1), -101);
            refused(x, "bond(0, " + p + ", 1)", () -> x.bond(0, p, 1), -101);
            refused(x, "p is r, but UNKNOWN: " + p, () -> x.bond(p, p, 1), -101);
        }
        refused(x, "ahead of OUTSIDE", () -> x.bond(0, 3, 1001), -101);
        refused(x, "ahead of OUTSIDE", () -> x.bond(3, 0, -1), -101);
        due("the last ones", x.bond(1, 2, 1), 1000);
        DearVotes nothing = new DearVotes();
        refused(nothing, "nobody there yet", () -> nothing.bond(0, 1, 1), -101);
        refused(nothing, "nobody there yet, p is r", () -> nothing.bond(0, 0, 1), -101);
    }

    private void bondOutsideSame() {
        says("Promise 22", "OUTSIDE: p is r");
        DearVotes x = full(0);
        refused(x, "bond(0, 0, 1)", () -> x.bond(0, 0, 1), -102);
        refused(x, "bond(11, 11, 1000)", () -> x.bond(11, 11, 1000), -102);
        refused(x, "bond(0, 0, 1001)", () -> x.bond(0, 0, 1001), -102);
    }

    private void bondOutsideThousandths() {
        says("Promise 22", "OUTSIDE: p is r, k");
        DearVotes x = Houses.ofGivers(2, 0);
        x.bond(0, 1, 7);
        for (int k : new int[] {-1, 1001, MIN, MAX}) {
            refused(x, "bond(0, 1, " + k + ")", () -> x.bond(0, 1, k), -102);
            refused(x, "bond(1, 0, " + k + ")", () -> x.bond(1, 0, k), -102);
        }
        due("0", x.bond(0, 1, 0), 7);
        due("1000", x.bond(0, 1, 1000), 0);
    }

    private void matchedSides() {
        says("Promise 23", "MATCHED of a PROJECT");
        DearVotes x = full(0);
        matches("the first, no gifts", x, 0, 0, 0);
        matches("the last, no gifts", x, 5, 0, 0);
        x.gift(10, 5, 1);
        x.gift(11, 5, 2);
        matches("the last", x, 5, 2, 3);
        for (int p = 0; p < 12; p++) {
            x.gift(p, 0, 1000000);
        }
        matches("the greatest", x, 0, 132000000, 132000000);
    }

    private void matchedUnknown() {
        says("Promise 23", "UNKNOWN (as -101)");
        DearVotes x = Houses.ofGivers(2, 2);
        for (int j : new int[] {-1, 2, 6, MIN, MAX}) {
            refused(x, "matched(" + j + ", 0)", () -> x.matched(j, 0), -101);
            refused(x, "matched(" + j + ", 1)", () -> x.matched(j, 1), -101);
            refused(x, "ahead of OUTSIDE: matched(" + j + ", 2)", () -> x.matched(j, 2), -101);
        }
        due("the last one", x.matched(1, 1), 0);
        DearVotes nothing = new DearVotes();
        refused(nothing, "no projects yet", () -> nothing.matched(0, 0), -101);
    }

    private void matchedOutside() {
        says("Promise 23", "OUTSIDE: side");
        DearVotes x = Houses.ofGivers(2, 1);
        Houses.gifts(x, 0, 1, 2);
        for (int side : new int[] {-1, 2, MIN, MAX}) {
            refused(x, "matched(0, " + side + ")", () -> x.matched(0, side), -102);
        }
        refused(x, "LOW", () -> x.matched(0, 0), 2);
        refused(x, "HIGH", () -> x.matched(0, 1), 3);
    }

    private void shareOfPot() {
        says("Promise 24", "What a PROJECT gets of THE POT P (0 to 1000000000)");
        DearVotes x = Houses.ofGivers(2, 6);
        Houses.gifts(x, 5, 4, 9);
        shares("the least", x, 0, 0, 0, 0, 0, 0, 0);
        shares("one unit", x, 1, 0, 0, 0, 0, 0, 1);
        shares("the greatest", x, 1000000000L, 0, 0, 0, 0, 0, 1000000000L);
        Houses.gifts(x, 0, 4, 9);
        shares("the last unit", x, 999999999L, 500000000L, 0, 0, 0, 0, 499999999L);
    }

    private void shareUnknown() {
        says("Promise 24", "UNKNOWN (as -101)");
        DearVotes x = Houses.ofGivers(2, 2);
        Houses.gifts(x, 0, 4, 9);
        for (int j : new int[] {-1, 2, 6, MIN, MAX}) {
            refused(x, "share(" + j + ", 5)", () -> x.share(j, 5), -101);
            refused(x, "ahead of OUTSIDE: share(" + j + ", -1)", () -> x.share(j, -1), -101);
        }
        due("the last one", x.share(1, 5), 0);
        DearVotes nothing = new DearVotes();
        refused(nothing, "no projects yet", () -> nothing.share(0, 5), -101);
    }

    private void shareOutside() {
        says("Promise 24", "OUTSIDE");
        DearVotes x = Houses.ofGivers(2, 1);
        long[] pots = {-1, 1000000001L, 1L << 32, (1L << 32) + 5, Long.MIN_VALUE, Long.MAX_VALUE};
        for (long pot : pots) {
            refused(x, "no match: share(0, " + pot + ")", () -> x.share(0, pot), -102);
        }
        Houses.gifts(x, 0, 4, 9);
        for (long pot : pots) {
            refused(x, "share(0, " + pot + ")", () -> x.share(0, pot), -102);
        }
        due("the greatest", x.share(0, 1000000000L), 1000000000L);
    }

    private void dampedByBonds() {
        says("Promise 25", "How much less MATCHED LOW of a PROJECT is by BONDS than if all were"
            + " 1000");
        DearVotes x = full(0);
        due("no gifts", x.damped(5), 0);
        for (int p = 0; p < 12; p++) {
            x.gift(p, 5, 1000000);
        }
        due("all are 1000", x.damped(5), 0);
        x.bond(0, 11, 999);
        due("one is 999", x.damped(5), 2000);
        for (int p = 0; p < 12; p++) {
            for (int r = 0; r < p; r++) {
                x.bond(p, r, 0);
            }
        }
        due("all are 0", x.damped(5), 132000000);
        due("another one", x.damped(0), 0);

        DearVotes y = Houses.ofGivers(2, 1);
        Houses.gifts(y, 0, 1, 2);
        y.bond(0, 1, 708);
        due("2 of 2.83, and 2.002 are 2", y.damped(0), 0);
        y.bond(0, 1, 707);
        due("2 of 2.83, and 1.999 are 1", y.damped(0), 1);
        y.bond(0, 1, 0);
        due("2 of 2.83, and nothing", y.damped(0), 2);
    }

    private void dampedUnknown() {
        says("Promise 25", "UNKNOWN (as -101)");
        DearVotes x = Houses.ofGivers(2, 2);
        for (int j : new int[] {-1, 2, 6, MIN, MAX}) {
            refused(x, "damped(" + j + ")", () -> x.damped(j), -101);
        }
        due("the last one", x.damped(1), 0);
        DearVotes nothing = new DearVotes();
        refused(nothing, "no projects yet", () -> nothing.damped(0), -101);
    }
}
