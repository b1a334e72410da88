/** Promises 15 to 20: the best voices, and the rounds of best answers. */
public final class BestAnswersTest {
    private static final Checks checks = new Checks();

    public static void main(String[] args) {
        promise15Best();
        promise15BestIsNotGreedy();
        promise16Answer();
        promise16LikeAnswers();
        promise16EdgesOfVoices();
        promise17Take();
        promise18Play();
        promise18PlayIsOneAfterTheOther();
        promise18PlayStaysIfNoGain();
        promise18PlayRefusals();
        promise19EndedAndPromise20Ring();
        promise20RingOfTheStart();
        promise20LongRings();
        promise20NoRingOverPlays();
        promise20RestAtTheLastRound();
        checks.end();
    }

    private static void answers(String when, DearVotes x, int p, int gain, int... voices) {
        checks.due(when + ": best(" + p + ")", x.best(p), gain);
        for (int q = 0; q < voices.length; q++) {
            checks.due(when + ": answer(" + p + ", " + q + ")", x.answer(p, q), voices[q]);
        }
    }

    private static void holds(String when, DearVotes x, int p, int... voices) {
        for (int q = 0; q < voices.length; q++) {
            checks.due(when + ": voices(" + p + ", " + q + ")", x.voices(p, q), voices[q]);
        }
    }

    private static void promise15Best() {
        DearVotes x = Houses.of(2, 25, 50, 9);
        Houses.votes(x, 0, 3, 4);
        Houses.votes(x, 1, -5, 5);
        Houses.worths(x, 0, 10, -3);
        // Others: -5 and 5. 25 is 5 * 5: a tie in question 0 or in question 1, not both.
        answers("a tie is all it can", x, 0, 4, 5, 0);
        Houses.worths(x, 2, 10, -3);
        // Others: -2 and 9: 3 voices bring question 0 above 0.
        answers("nine is enough", x, 2, 14, 3, 0);
        x.here(1, false);
        answers("those who are ABSENT do not count", x, 0, 20, 1, -1);
        x.here(0, false);
        answers("as if HERE", x, 0, 20, 1, -1);
        checks.due("it stays ABSENT", x.here(0, false), 0);
        checks.due("and so it has less", x.gain(0), 7);
        x.here(2, false);
        answers("nobody HERE", x, 2, 20, 1, -1);
        checks.refused(x, "best(3)", () -> x.best(3), -2000000);
        checks.refused(x, "best(-1)", () -> x.best(-1), -2000000);
        checks.refused(x, "best changes nothing", () -> x.best(0), 20);

        DearVotes none = Houses.of(0, 5);
        checks.due("no questions: best(0)", none.best(0), 0);
        DearVotes poor = Houses.of(2, 0, 9);
        Houses.worths(poor, 0, 5, -5);
        answers("no budget", poor, 0, 0, 0, 0);
        Houses.votes(poor, 1, 2, 2);
        answers("no budget, other voices", poor, 0, 0, 0, 0);
        Houses.worths(poor, 0, -5, -5);
        answers("no budget, less than nothing", poor, 0, -20, 0, 0);
    }

    private static void promise15BestIsNotGreedy() {
        DearVotes x = Houses.of(3, 4, 1);
        Houses.worths(x, 0, 10, 6, 6);
        Houses.votes(x, 1, -1);
        // (2, 0, 0) gains 20 + 6 + 6, and (1, 1, 1) 10 + 12 + 12.
        answers("many small ones", x, 0, 34, 1, 1, 1);
        Houses.worths(x, 0, 20, 6, 6);
        answers("one great one", x, 0, 52, 2, 0, 0);

        DearVotes six = Houses.of(6, 91, 91);
        Houses.votes(six, 1, -1, 2, -3, 4, -5, 6);
        Houses.worths(six, 0, 1, -1, 1, -1, 1, -1);
        // It has -6 by no voices; the first five are won by 4 + 9 + 16 + 25 + 36 = 90, 2 each.
        answers("five of six won", six, 0, 4, 2, -3, 4, -5, 6, 0);
        Houses.worths(six, 0, 1000, -1000, 1000, -1000, 1000, -1000);
        answers("with the greatest worths", six, 0, 4000, 2, -3, 4, -5, 6, 0);
        Houses.worths(six, 0, 1, -1, 1, -1, 1, -1000);
        // 49 for the last one leaves 42: 4 + 9 + 16 win the first three, and 13 buy no more.
        answers("the last one first", six, 0, 2, 2, -3, 4, 0, 0, -7);
    }

    private static void promise16Answer() {
        DearVotes x = Houses.of(2, 25, 50);
        Houses.votes(x, 1, -3, 2);
        Houses.worths(x, 0, 5, -5);
        checks.due("answer(0, 1) ahead of best(0)", x.answer(0, 1), -3);
        checks.due("answer(1, 1) of another one", x.answer(1, 1), 0);
        checks.due("answer(0, 0)", x.answer(0, 0), 4);
        answers("two against one", x, 0, 10, 4, -3);
        Houses.votes(x, 0, 1, 1);
        answers("its own voices are as none", x, 0, 10, 4, -3);
        holds("answer takes nothing", x, 0, 1, 1);
        checks.refused(x, "answer(2, 0)", () -> x.answer(2, 0), -2000);
        checks.refused(x, "answer(-1, 0)", () -> x.answer(-1, 0), -2000);
        checks.refused(x, "answer(0, 2)", () -> x.answer(0, 2), -2000);
        checks.refused(x, "answer(0, -1)", () -> x.answer(0, -1), -2000);
        checks.refused(x, "answer(0, 1) changes nothing", () -> x.answer(0, 1), -3);
    }

    private static void promise16LikeAnswers() {
        DearVotes x = Houses.of(3, 1, 9);
        Houses.worths(x, 0, 5, 5, 5);
        answers("the least for question 0, then 1", x, 0, 20, 0, 0, 1);
        Houses.worths(x, 0, -5, -5, -5);
        answers("the least is below 0", x, 0, -10, -1, 0, 0);
        Houses.worths(x, 0, 5, -5, -5);
        answers("the least for question 0 is 0", x, 0, 0, 0, -1, 0);
        Houses.worths(x, 0, 0, 5, 5);
        answers("what is worth nothing gets nothing", x, 0, 15, 0, 0, 1);
        Houses.worths(x, 0, 5, 5, 0);
        answers("the last is worth nothing", x, 0, 15, 0, 1, 0);
        Houses.worths(x, 0, 0, 0, 0);
        Houses.votes(x, 0, 1);
        answers("nothing is worth anything", x, 0, 0, 0, 0, 0);

        DearVotes two = Houses.of(3, 2, 9);
        Houses.worths(two, 0, 5, 5, 5);
        answers("two of three", two, 0, 25, 0, 1, 1);
        Houses.worths(two, 0, 5, -5, 5);
        answers("two of three, one below", two, 0, 15, 0, -1, 1);

        DearVotes cheap = Houses.of(2, 4, 9);
        Houses.votes(cheap, 1, -1, 0);
        Houses.worths(cheap, 0, 5, 5);
        // (2, 0) and (1, 1) gain 15 each: at 4 and at 2.
        answers("of like ones the least cost", cheap, 0, 15, 1, 1);
        Houses.votes(cheap, 1, 0, -1);
        answers("the least cost ahead of the least voices", cheap, 0, 15, 1, 1);

        DearVotes won = Houses.of(1, 100, 9);
        Houses.votes(won, 1, 2);
        Houses.worths(won, 0, 5);
        answers("what is won already", won, 0, 10, 0);
    }

    private static void promise16EdgesOfVoices() {
        DearVotes x = Houses.of(1, 2000, 2000, 2000);
        Houses.worths(x, 0, 5);
        Houses.votes(x, 1, -39);
        answers("40 against 39", x, 0, 10, 40);
        Houses.votes(x, 1, -40);
        answers("40 against 40 is a tie", x, 0, 5, 40);
        Houses.votes(x, 2, -1);
        answers("none against 41", x, 0, 0, 0);
        Houses.worths(x, 0, -5);
        Houses.votes(x, 2, 0);
        Houses.votes(x, 1, 39);
        answers("-40 against 39", x, 0, 0, -40);
        Houses.votes(x, 1, 40);
        answers("-40 against 40 is a tie", x, 0, -5, -40);
        Houses.votes(x, 2, 1);
        answers("none against 41, above", x, 0, -10, 0);

        DearVotes budget = Houses.of(1, 1600, 1599, 2000);
        Houses.votes(budget, 2, -39);
        Houses.worths(budget, 0, 5);
        Houses.worths(budget, 1, 5);
        answers("a budget of 1600", budget, 0, 10, 40);
        answers("a budget of 1599", budget, 1, 5, 39);
    }

    private static void promise17Take() {
        DearVotes x = Houses.of(2, 25, 50);
        Houses.votes(x, 1, -3, 2);
        Houses.votes(x, 0, 0, 5);
        Houses.worths(x, 0, 5, -5);
        checks.due("take(0)", x.take(0), 25);
        holds("taken", x, 0, 4, -3);
        checks.due("take(0) again", x.take(0), 25);
        checks.due("the gain it has then", x.gain(0), 10);
        holds("others keep theirs", x, 1, -3, 2);
        checks.due("take is no ROUND", x.count(4), 0);
        checks.due("take is no change by a ROUND", x.count(5), 0);

        Houses.votes(x, 1, 0, 0);
        checks.due("take for a like GAIN at less COST", x.take(0), 2);
        holds("taken for less", x, 0, 1, -1);
        x.here(0, false);
        checks.refused(x, "take(0) when ABSENT", () -> x.take(0), -103);
        checks.refused(x, "take(2)", () -> x.take(2), -101);
        checks.refused(x, "take(-1)", () -> x.take(-1), -101);
    }

    private static void promise18Play() {
        DearVotes x = Houses.of(1, 4, 4);
        Houses.worths(x, 0, 5);
        Houses.worths(x, 1, -5);
        // 1 and -1 -> a tie; -2 is better than a tie; 2 against -2; rest.
        checks.due("play(1)", x.play(1), 1);
        holds("after one round", x, 0, 1);
        holds("after one round", x, 1, -2);
        checks.due("ended() 0", x.ended(), 0);
        checks.due("play(30)", x.play(30), 2);
        holds("at rest", x, 0, 2);
        holds("at rest", x, 1, -2);
        checks.due("ended() 1", x.ended(), 1);
        checks.due("count(4)", x.count(4), 3);
        checks.due("count(5)", x.count(5), 3);

        DearVotes two = Houses.of(2, 2, 2);
        Houses.worths(two, 0, 5, 5);
        checks.due("a change of two VOICES is one", two.play(1), 1);
        holds("both", two, 0, 1, 1);
        checks.due("count(5)", two.count(5), 1);
        checks.due("at rest", two.play(1), 1);
        checks.due("a round of rest is done, too", two.count(4), 2);
        checks.due("without a change", two.count(5), 1);

        DearVotes nobody = new DearVotes();
        checks.due("nobody plays", nobody.play(30), 1);
        checks.due("nobody rests", nobody.ended(), 1);
        checks.due("nobody's rounds", nobody.count(4), 1);
    }

    private static void promise18PlayIsOneAfterTheOther() {
        DearVotes x = Houses.of(1, 100, 100, 100);
        for (int p = 0; p < 3; p++) {
            Houses.worths(x, p, p == 1 ? -5 : 5);
        }
        checks.due("play(1)", x.play(1), 1);
        holds("the first sees nobody", x, 0, 1);
        holds("the second sees the first", x, 1, -2);
        holds("the third sees both", x, 2, 2);

        DearVotes absent = Houses.of(1, 100, 100, 100);
        for (int p = 0; p < 3; p++) {
            Houses.worths(absent, p, p == 1 ? -5 : 5);
        }
        absent.here(1, false);
        checks.due("play(30), one ABSENT", absent.play(30), 2);
        holds("the first", absent, 0, 1);
        holds("who is ABSENT takes nothing", absent, 1, 0);
        holds("the third has nothing to better", absent, 2, 0);
        checks.due("count(5)", absent.count(5), 1);
    }

    private static void promise18PlayStaysIfNoGain() {
        DearVotes x = Houses.of(2, 25, 25);
        Houses.worths(x, 0, 5, 0);
        Houses.votes(x, 0, 4, 3);
        checks.due("play(30)", x.play(30), 1);
        holds("like GAIN for less COST is no reason", x, 0, 4, 3);
        checks.due("ended()", x.ended(), 1);
        checks.due("count(5)", x.count(5), 0);
    }

    private static void promise18PlayRefusals() {
        DearVotes x = houseOfRing();
        x.play(30);
        checks.due("a RING stands", x.ring(), 2);
        checks.refused(x, "play(0)", () -> x.play(0), -102);
        checks.refused(x, "play(-1)", () -> x.play(-1), -102);
        checks.refused(x, "play(31)", () -> x.play(31), -102);
        checks.refused(x, "play(MAX)", () -> x.play(Integer.MAX_VALUE), -102);
        checks.refused(x, "play(MIN)", () -> x.play(Integer.MIN_VALUE), -102);
        checks.due("it stands still", x.ring(), 2);
        checks.due("ended()", x.ended(), 2);
    }

    private static DearVotes houseOfRing() {
        return Houses.ofWorths(Houses.RING_OF_TWO);
    }

    private static void promise19EndedAndPromise20Ring() {
        DearVotes x = houseOfRing();
        checks.due("ended() without a PLAY", x.ended(), 0);
        checks.due("ring() without a PLAY", x.ring(), 0);
        checks.due("play(1)", x.play(1), 1);
        holds("round 1", x, 0, 1, 1);
        holds("round 1", x, 1, -1, 0);
        checks.due("ended() after play(1)", x.ended(), 0);
        checks.due("ring() after play(1)", x.ring(), 0);

        DearVotes whole = houseOfRing();
        checks.due("play(30)", whole.play(30), 4);
        checks.due("ended() by RING", whole.ended(), 2);
        checks.due("ring()", whole.ring(), 2);
        holds("in the ring", whole, 0, 2, 1);
        holds("in the ring", whole, 1, 0, -1);
        checks.due("count(4)", whole.count(4), 4);
        checks.due("count(5)", whole.count(5), 8);
        checks.due("play(1) within the ring", whole.play(1), 1);
        checks.due("ended() is told of the latest", whole.ended(), 0);
        checks.due("ring() is told of the latest", whole.ring(), 0);
        whole.here(1, false);
        checks.due("play(2) to rest", whole.play(2), 1);
        checks.due("ended() by REST", whole.ended(), 1);
        checks.due("ring() at rest", whole.ring(), 0);

        DearVotes exact = houseOfRing();
        checks.due("play(4)", exact.play(4), 4);
        checks.due("a RING at the last round", exact.ended(), 2);
        checks.due("ring() at the last round", exact.ring(), 2);
    }

    private static void promise20RingOfTheStart() {
        DearVotes x = houseOfRing();
        Houses.votes(x, 0, 2, 1);
        Houses.votes(x, 1, 0, -1);
        checks.due("play(30)", x.play(30), 2);
        checks.due("ended()", x.ended(), 2);
        checks.due("ring()", x.ring(), 2);
        checks.due("again: play(30)", x.play(30), 2);
        checks.due("again: ring()", x.ring(), 2);
    }

    private static void promise20LongRings() {
        checks.due("play(11)", houseOfLongRing().play(11), 11);
        DearVotes x = houseOfLongRing();
        checks.due("play(30)", x.play(30), 12);
        checks.due("ended()", x.ended(), 2);
        checks.due("ring()", x.ring(), 10);
        DearVotes y = houseOfLongRing();
        y.play(11);
        checks.due("a round ahead of the ring's end", y.ended(), 0);

        // 30 rounds are too few, and 30 more are just enough.
        DearVotes great = Houses.of(3, 777, 950, 1161);
        Houses.worths(great, 0, 1, 0, -1);
        Houses.worths(great, 1, -5, 5, -4);
        Houses.worths(great, 2, 2, 2, 2);
        checks.due("great: play(30)", great.play(30), 30);
        checks.due("great: ended()", great.ended(), 0);
        checks.due("great: ring()", great.ring(), 0);
        checks.due("great again: play(30)", great.play(30), 30);
        checks.due("great again: ended()", great.ended(), 2);
        checks.due("great again: ring()", great.ring(), 14);
    }

    private static DearVotes houseOfLongRing() {
        DearVotes x = Houses.of(3, 7, 6, 4);
        Houses.worths(x, 0, -3, 2, -2);
        Houses.worths(x, 1, 1, -2, -3);
        Houses.worths(x, 2, 1, 3, 1);
        return x;
    }

    private static void promise20NoRingOverPlays() {
        DearVotes x = houseOfRing();
        checks.due("play(3)", x.play(3), 3);
        checks.due("ended() behind play(3)", x.ended(), 0);
        checks.due("play(1)", x.play(1), 1);
        checks.due("voices as behind round 2 of another PLAY", x.ended(), 0);
        checks.due("ring()", x.ring(), 0);
        holds("they are", x, 0, 2, 1);
        holds("they are", x, 1, 0, -1);
    }

    private static void promise20RestAtTheLastRound() {
        DearVotes x = Houses.of(1, 4, 4);
        Houses.worths(x, 0, 5);
        Houses.worths(x, 1, -5);
        checks.due("play(2)", x.play(2), 2);
        checks.due("the second round still changed", x.ended(), 0);
        checks.due("play(1)", x.play(1), 1);
        checks.due("the third rests", x.ended(), 1);

        // Behind round k the voices are 2k - 1 and -2k, till 40 answers -40 in round 21.
        DearVotes slow = Houses.of(1, 1600, 1600);
        Houses.worths(slow, 0, 5);
        Houses.worths(slow, 1, -5);
        checks.due("play(30)", slow.play(30), 22);
        holds("all it has", slow, 0, 40);
        holds("all it has", slow, 1, -40);
    }
}
