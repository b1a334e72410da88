/** The terms of ROUND, PLAY, REST and RING. */
final class EdgesOfTermsPlay extends Edges {
    EdgesOfTermsPlay(Checks checks, Sentences sentences) {
        super(checks, sentences);
    }

    @Override
    void run() {
        roundOfThoseHere();
        roundInTheirOrder();
        roundIfGainIsGreater();
        roundElseVoicesStay();
        playOfAtMost();
        playToRest();
        playToRestAtTheEdge();
        playToRing();
        ringOfAllVoices();
        ringOfThisPlay();
        ringAheadOfAll();
        playEndsThen();
    }

    static DearVotes race() {
        return Houses.ofWorths(Houses.RACE);
    }

    static DearVotes ringOfTwo() {
        return Houses.ofWorths(Houses.RING_OF_TWO);
    }

    private void roundOfThoseHere() {
        says("Terms", "A ROUND: each PERSON that is HERE");
        DearVotes x = full(1);
        for (int p = 0; p < 12; p++) {
            x.worth(p, p % 6, 5);
            x.here(p, p == 0 || p == 11);
        }
        due("play(1)", x.play(1), 1);
        holds("the first is HERE", x, 0, 1, 0, 0, 0, 0, 0);
        holds("the last is HERE", x, 11, 0, 0, 0, 0, 0, 1);
        for (int p = 1; p < 11; p++) {
            due("cost(" + p + "), who is ABSENT", x.cost(p), 0);
        }
        due("two changed", x.count(5), 2);
        DearVotes nobody = Houses.of(1, 9);
        nobody.worth(0, 0, 5);
        nobody.here(0, false);
        due("nobody HERE", nobody.play(30), 1);
        due("nobody changed", nobody.count(5), 0);
    }

    private void roundInTheirOrder() {
        says("Terms", ", in their order, takes THE BEST VOICES");
        DearVotes x = full(200);
        for (int p = 0; p < 12; p++) {
            x.worth(p, 0, p % 2 == 0 ? 5 : -5);
        }
        due("play(1)", x.play(1), 1);
        // Each sees what those ahead of it have made of THE COUNT: 1, -1, 1, ..
        for (int p = 0; p < 12; p++) {
            due("voices(" + p + ", 0)", x.voices(p, 0), p == 0 ? 1 : p % 2 == 0 ? 2 : -2);
        }
        due("the last has won", x.total(0), -1);
    }

    private void roundIfGainIsGreater() {
        says("Terms", "if their GAIN is greater than what it has");
        DearVotes x = Houses.of(1, 1, 1);
        x.worth(0, 0, 1);
        x.vote(1, 0, -1);
        due("gain(0)", x.gain(0), 0);
        due("play(1)", x.play(1), 1);
        holds("1 is greater than 0", x, 0, 1);
        x.worth(0, 0, -1);
        due("gain(0) of WORTH -1", x.gain(0), -1);
        due("play(1)", x.play(1), 1);
        holds("0 is greater than -1: no voices are enough", x, 0, 0);
    }

    private void roundElseVoicesStay() {
        says("Terms", "(else its VOICES stay)");
        DearVotes x = Houses.of(2, 25, 25);
        Houses.worths(x, 0, 5, 0);
        Houses.votes(x, 0, 4, -3);
        bests("at less COST", x, 0, 10, 1, 0);
        due("play(1)", x.play(1), 1);
        holds("like GAIN: they stay", x, 0, 4, -3);
        due("no change", x.count(5), 0);
    }

    private void playOfAtMost() {
        says("Terms", "PLAY of at most n ROUNDS");
        DearVotes x = race();
        due("play(1)", x.play(1), 1);
        holds("one ROUND", x, 0, 1);
        holds("one ROUND", x, 1, -2);
        due("play(20)", x.play(20), 20);
        holds("21 ROUNDS", x, 0, 40);
        holds("21 ROUNDS", x, 1, -40);
        due("it has not come to REST", x.ended(), 0);
        due("play(30)", x.play(30), 1);
        due("it has come to REST", x.ended(), 1);

        DearVotes great = Houses.ofWorths(Houses.RING_OF_THIRTY);
        due("all 30 are done", great.play(30), 30);
        due("without an end", great.ended(), 0);
        due("count(4)", great.count(4), 30);
    }

    private void playToRest() {
        says("Terms", "it comes to REST, if nobody changed anything in a ROUND");
        DearVotes nobody = new DearVotes();
        due("nobody there: play(30)", nobody.play(30), 1);
        due("nobody there: ended()", nobody.ended(), 1);
        DearVotes x = race();
        x.play(21);
        due("somebody changed in the 21st", x.ended(), 0);
        due("play(1)", x.play(1), 1);
        due("nobody in the 22nd", x.ended(), 1);
        due("play(1) at REST", x.play(1), 1);
        due("it is REST, no RING of one", x.ended(), 1);
        due("ring()", x.ring(), 0);
        // The last one alone changes in the first ROUND: that is no REST.
        DearVotes last = full(1);
        last.worth(11, 5, 1);
        due("the last one changes: play(1)", last.play(1), 1);
        due("the last one changes: ended()", last.ended(), 0);
        due("then nobody: play(30)", last.play(30), 1);
        due("then nobody: ended()", last.ended(), 1);
    }

    private void playToRestAtTheEdge() {
        says("Terms", "it comes to REST, if nobody changed anything");
        DearVotes x = Houses.ofWorths(Houses.REST_AT_THIRTY);
        due("play(30)", x.play(30), 30);
        due("REST in the last ROUND there may be", x.ended(), 1);
        DearVotes y = Houses.ofWorths(Houses.REST_AT_THIRTY);
        due("play(29)", y.play(29), 29);
        due("one ROUND too few", y.ended(), 0);
        DearVotes z = race();
        due("play(22)", z.play(22), 22);
        due("REST in the last ROUND of the PLAY", z.ended(), 1);
    }

    private void playToRing() {
        says("Terms", "to a RING, if all VOICES are behind a ROUND as they were behind an earlier"
            + " ROUND");
        DearVotes x = ringOfTwo();
        due("play(3)", x.play(3), 3);
        due("only VOICES of one are as they were", x.ended(), 0);
        holds("of the other one", x, 1, -1, 0);
        DearVotes y = ringOfTwo();
        due("play(4)", y.play(4), 4);
        due("all VOICES are as behind the 2nd", y.ended(), 2);
        due("ring()", y.ring(), 2);
        holds("as behind the 2nd", y, 0, 2, 1);
        holds("as behind the 2nd", y, 1, 0, -1);
    }

    private void ringOfAllVoices() {
        says("Terms", "if all VOICES are behind a ROUND as they were");
        DearVotes x = Houses.ofWorths(Houses.LIKE_COUNTS);
        due("THE COUNTS are as they were in the 2nd: play(30)", x.play(30), 9);
        due("THE COUNTS are no VOICES", x.ended(), 1);
        DearVotes y = Houses.ofWorths(Houses.LIKE_COSTS);
        due("COSTS are as they were in the 15th: play(30)", y.play(30), 17);
        due("COSTS are no VOICES", y.ended(), 2);
        due("ring()", y.ring(), 8);
    }

    private void ringOfThisPlay() {
        says("Terms", "behind an earlier ROUND of this PLAY");
        DearVotes x = ringOfTwo();
        due("play(2)", x.play(2), 2);
        due("play(1)", x.play(1), 1);
        due("play(1) again", x.play(1), 1);
        due("as behind the 2nd, of another PLAY", x.ended(), 0);
        due("ring()", x.ring(), 0);
        holds("it is so", x, 0, 2, 1);
        holds("it is so", x, 1, 0, -1);
    }

    private void ringAheadOfAll() {
        says("Terms", "or ahead of all of them");
        DearVotes x = ringOfTwo();
        x.play(2);
        due("play(2)", x.play(2), 2);
        due("as ahead of both", x.ended(), 2);
        due("ring()", x.ring(), 2);

        DearVotes great = Houses.ofWorths(Houses.RING_OF_THIRTY);
        great.play(30);
        due("play(29)", great.play(29), 29);
        due("one ROUND too few", great.ended(), 0);
        due("play(1)", great.play(1), 1);
        due("play(30)", great.play(30), 30);
        due("as ahead of all 30", great.ended(), 2);
        due("ring() of all 30", great.ring(), 30);
    }

    private void playEndsThen() {
        says("Terms", "; it ends then");
        DearVotes rest = race();
        due("to REST: play(30)", rest.play(30), 22);
        due("to REST: count(4)", rest.count(4), 22);
        DearVotes ring = ringOfTwo();
        due("to a RING: play(30)", ring.play(30), 4);
        due("to a RING: count(4)", ring.count(4), 4);
        due("to a RING: count(5)", ring.count(5), 8);
    }
}
