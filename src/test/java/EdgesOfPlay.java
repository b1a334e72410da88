/** Promises 15 to 20. */
final class EdgesOfPlay extends Edges {
    EdgesOfPlay(Checks checks, Sentences sentences) {
        super(checks, sentences);
    }

    @Override
    void run() {
        bestAsIfHere();
        bestUnknown();
        answerOf();
        answerUnknown();
        takeCostThen();
        takeUnknown();
        takeState();
        playDone();
        playOutside();
        endedNotOrNone();
        endedByRest();
        endedByRing();
        endedLatest();
        ringOfLatest();
        ringElse();
    }

    private void bestAsIfHere() {
        says("Promise 15", "What GAIN a PERSON has by THE BEST VOICES (as if HERE)");
        due("no QUESTIONS", Houses.of(0, 9).best(0), 0);
        DearVotes x = full(1);
        due("no WORTHS", x.best(11), 0);
        x.worth(11, 5, 1000);
        due("of the last", x.best(11), 2000);
        x.here(11, false);
        due("of the last, ABSENT", x.best(11), 2000);
        due("as it is, ABSENT", x.gain(11), 1000);
        due("it stays ABSENT", x.here(11, false), 0);
        due("it takes nothing", x.cost(11), 0);
        DearVotes y = Houses.of(6, 0, 2000);
        Houses.worths(y, 0, -1000, -1000, -1000, -1000, -1000, -1000);
        Houses.votes(y, 1, 1, 1, 1, 1, 1, 1);
        due("the least there is", y.best(0), -12000);
        Houses.worths(y, 0, 1000, 1000, 1000, 1000, 1000, 1000);
        due("the greatest there is", y.best(0), 12000);
    }

    private void bestUnknown() {
        says("Promise 15", "-2000000: UNKNOWN");
        DearVotes x = Houses.of(1, 9, 9);
        for (int p : new int[] {-1, 2, 12, MIN, MAX}) {
            refused(x, "best(" + p + ")", () -> x.best(p), -2000000);
        }
        refused(x, "best(1) changes nothing", () -> x.best(1), 0);
        DearVotes nothing = new DearVotes();
        refused(nothing, "nobody there yet", () -> nothing.best(0), -2000000);
    }

    private void answerOf() {
        says("Promise 16", "THE BEST VOICES of a PERSON for a QUESTION");
        DearVotes x = full(1600);
        x.worth(11, 5, 7);
        due("of the last for the last", x.answer(11, 5), 1);
        due("of the first for the first", x.answer(0, 0), 0);
        due("of the last again", x.answer(11, 5), 1);
        x.vote(0, 5, -39);
        due("the greatest", x.answer(11, 5), 40);
        x.worth(11, 5, -7);
        x.vote(0, 5, 39);
        due("the least", x.answer(11, 5), -40);
        x.here(11, false);
        due("as if HERE", x.answer(11, 5), -40);
        due("it takes nothing", x.voices(11, 5), 0);
        DearVotes poor = Houses.of(1, 0);
        poor.worth(0, 0, 7);
        due("a BUDGET of 0", poor.answer(0, 0), 0);
    }

    private void answerUnknown() {
        says("Promise 16", "-2000: UNKNOWN");
        DearVotes x = Houses.of(2, 9, 9, 9);
        for (int p : new int[] {-1, 3, 12, MIN, MAX}) {
            refused(x, "answer(" + p + ", 0)", () -> x.answer(p, 0), -2000);
        }
        for (int q : new int[] {-1, 2, 6, MIN, MAX}) {
            refused(x, "answer(0, " + q + ")", () -> x.answer(0, q), -2000);
        }
        refused(x, "answer(2, 1) changes nothing", () -> x.answer(2, 1), 0);
        DearVotes nothing = new DearVotes();
        refused(nothing, "nothing there yet", () -> nothing.answer(0, 0), -2000);
    }

    private void takeCostThen() {
        says("Promise 17", "A PERSON takes THE BEST VOICES: COST then");
        due("no QUESTIONS", Houses.of(0, 9).take(0), 0);
        DearVotes x = Houses.of(2, 2000, 2000, 0);
        Houses.worths(x, 0, 5, 5);
        Houses.worths(x, 2, 5, 5);
        Houses.votes(x, 1, -39, -19);
        due("all its BUDGET", x.take(0), 2000);
        holds("40 and 20", x, 0, 40, 20);
        due("a BUDGET of 0", x.take(2), 0);
        Houses.votes(x, 1, 0, 0);
        due("no greater GAIN, but less COST", x.take(0), 2);
        holds("1 and 1", x, 0, 1, 1);
        Houses.worths(x, 0, 0, 0);
        due("nothing is worth anything", x.take(0), 0);
        holds("none", x, 0, 0, 0);
        due("it is no ROUND", x.count(4), 0);
        due("its changes are none of a ROUND", x.count(5), 0);
        due("ended()", x.ended(), 0);
    }

    private void takeUnknown() {
        says("Promise 17", "UNKNOWN");
        DearVotes x = Houses.of(1, 9, 9);
        x.worth(1, 0, 5);
        for (int p : new int[] {-1, 2, 12, MIN, MAX}) {
            refused(x, "take(" + p + ")", () -> x.take(p), -101);
        }
        due("the last one", x.take(1), 1);
        DearVotes nothing = new DearVotes();
        refused(nothing, "nobody there yet", () -> nothing.take(0), -101);
    }

    private void takeState() {
        says("Promise 17", "STATE: it is ABSENT");
        DearVotes x = Houses.of(1, 9, 9);
        x.worth(1, 0, 5);
        x.here(1, false);
        refused(x, "ABSENT", () -> x.take(1), -103);
        x.here(1, true);
        due("HERE again", x.take(1), 1);
        x.here(0, false);
        due("another one is ABSENT", x.take(1), 1);
    }

    private void playDone() {
        says("Promise 18", "PLAY of n ROUNDS (1 to 30) at most: how many were done");
        due("nobody there: play(1)", new DearVotes().play(1), 1);
        due("nobody there: play(30)", new DearVotes().play(30), 1);
        DearVotes x = EdgesOfTermsPlay.race();
        due("play(1)", x.play(1), 1);
        due("play(2)", x.play(2), 2);
        due("play(30), the other 19", x.play(30), 19);
        due("play(30), one of REST", x.play(30), 1);
        due("count(4)", x.count(4), 23);
    }

    private void playOutside() {
        says("Promise 18", "OUTSIDE");
        DearVotes x = EdgesOfTermsPlay.ringOfTwo();
        for (int n : new int[] {0, 31, -1, MIN, MAX}) {
            refused(x, "play(" + n + ")", () -> x.play(n), -102);
        }
        x.play(30);
        for (int n : new int[] {0, 31}) {
            refused(x, "behind a RING: play(" + n + ")", () -> x.play(n), -102);
        }
        due("ended() is of the latest PLAY", x.ended(), 2);
    }

    private void endedNotOrNone() {
        says("Promise 19", "0 it did not (or there was none)");
        DearVotes x = EdgesOfTermsPlay.race();
        due("none", x.ended(), 0);
        due("refused", x.play(31), -102);
        due("still none", x.ended(), 0);
        x.play(21);
        due("it did not", x.ended(), 0);
    }

    private void endedByRest() {
        says("Promise 19", "1 REST");
        DearVotes x = EdgesOfTermsPlay.race();
        x.play(22);
        due("REST in the last ROUND", x.ended(), 1);
        DearVotes nobody = new DearVotes();
        nobody.play(1);
        due("REST of nobody", nobody.ended(), 1);
    }

    private void endedByRing() {
        says("Promise 19", "2 RING");
        DearVotes x = EdgesOfTermsPlay.ringOfTwo();
        x.play(3);
        due("one ROUND too few", x.ended(), 0);
        DearVotes y = EdgesOfTermsPlay.ringOfTwo();
        y.play(4);
        due("RING in the last ROUND", y.ended(), 2);
    }

    private void endedLatest() {
        says("Promise 19", "How the latest PLAY ended:");
        DearVotes x = EdgesOfTermsPlay.ringOfTwo();
        x.play(30);
        due("a RING", x.ended(), 2);
        x.play(0);
        due("a refused one is none", x.ended(), 2);
        x.take(0);
        x.vote(0, 0, 0);
        x.here(1, false);
        due("other calls are none", x.ended(), 2);
        x.play(1);
        due("it did not, then", x.ended(), 0);
        x.play(30);
        due("REST, then", x.ended(), 1);
        x.here(1, true);
        x.play(1);
        due("it did not, after REST", x.ended(), 0);
    }

    private void ringOfLatest() {
        says("Promise 20", "Of a RING at the latest PLAY's end: how many ROUNDS it has");
        DearVotes x = EdgesOfTermsPlay.ringOfTwo();
        x.play(30);
        due("those ahead of the RING do not count", x.ring(), 2);
        x.play(31);
        due("a refused PLAY is none", x.ring(), 2);
        x.play(2);
        due("all of the PLAY", x.ring(), 2);
    }

    private void ringElse() {
        says("Promise 20", "; else 0");
        DearVotes x = EdgesOfTermsPlay.ringOfTwo();
        due("no PLAY", x.ring(), 0);
        x.play(3);
        due("a ROUND too few", x.ring(), 0);
        x.play(30);
        due("a RING", x.ring(), 2);
        x.play(1);
        due("it did not end", x.ring(), 0);
        x.play(30);
        due("a RING again", x.ring(), 2);
        x.here(1, false);
        x.play(30);
        due("REST", x.ring(), 0);
        due("it is REST", x.ended(), 1);
    }
}
