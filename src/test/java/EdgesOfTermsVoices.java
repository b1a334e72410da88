/** The terms of people, questions, voices, the lot, the gain and the best voices. */
final class EdgesOfTermsVoices extends Edges {
    EdgesOfTermsVoices(Checks checks, Sentences sentences) {
        super(checks, sentences);
    }

    @Override
    void run() {
        mostPeople();
        mostQuestions();
        numberedAsTheyCome();
        callsOfOneObject();
        budgetBounds();
        voicesBounds();
        voicesAtFirst();
        worthBounds();
        worthAtFirst();
        hereAtFirst();
        costOfAllVoices();
        costAtMostBudget();
        countOfThoseHere();
        resultAboveAndBelow();
        resultOfNothing();
        lotWraps();
        lotOneTimeMore();
        lotBitTwenty();
        gainAboveAtAndBelow();
        gainGreatestAndLeast();
        bestAgainstOthers();
        bestWithinBudget();
        bestWithinForty();
        bestGreatestGain();
        bestLeastCost();
        bestLeastVoices();
    }

    private void mostPeople() {
        says("What it is", "PEOPLE (12 at most)");
        DearVotes x = new DearVotes();
        for (int p = 0; p < 12; p++) {
            due("person(5)", x.person(5), p);
        }
        refused(x, "the 13th", () -> x.person(5), -104);
        due("count(0)", x.count(0), 12);
    }

    private void mostQuestions() {
        says("What it is", "QUESTIONS (6 at most)");
        DearVotes x = new DearVotes();
        for (int q = 0; q < 6; q++) {
            due("question()", x.question(), q);
        }
        refused(x, "the 7th", x::question, -104);
        due("count(1)", x.count(1), 6);
    }

    private void numberedAsTheyCome() {
        says("What it is", "are numbered as they come");
        DearVotes x = new DearVotes();
        due("the first", x.person(7), 0);
        due("refused", x.person(2001), -102);
        due("who is refused takes no number", x.person(9), 1);
        due("questions have numbers of their own", x.question(), 0);
        due("projects have numbers of their own", x.project(), 0);
        due("BUDGET of 0: 4", x.vote(0, 0, 3), -103);
        due("BUDGET of 1: 9", x.vote(1, 0, 3), 9);
    }

    private void callsOfOneObject() {
        says("What it is", "An object is used for at most 512 calls after it has been made");
        DearVotes x = Houses.of(2, 5, 1);
        Houses.worths(x, 0, 3, 3);
        Houses.worths(x, 1, -3, -2);
        due("the 9th call", x.play(30), 4);
        for (int call = 10; call <= 511; call++) {
            due("call " + call, x.play(30), 2);
        }
        due("the 512th call", x.count(4), 4 + 502 * 2);

        DearVotes y = new DearVotes();
        for (int call = 1; call <= 511; call++) {
            y.seed(call);
        }
        due("the 512th call of another", y.seed(0), 511);
    }

    private void budgetBounds() {
        says("Terms", "A PERSON has a BUDGET (0 to 2000)");
        DearVotes x = new DearVotes();
        refused(x, "person(-1)", () -> x.person(-1), -102);
        refused(x, "person(2001)", () -> x.person(2001), -102);
        due("person(0)", x.person(0), 0);
        due("person(2000)", x.person(2000), 1);
        x.question();
        x.question();
        due("nothing for nothing", x.vote(0, 0, 0), 0);
        refused(x, "1 of 0", () -> x.vote(0, 0, 1), -103);
        refused(x, "-1 of 0", () -> x.vote(0, 0, -1), -103);
        due("1600 of 2000", x.vote(1, 0, 40), 1600);
        due("2000 of 2000", x.vote(1, 1, -20), 2000);
        refused(x, "2041 of 2000", () -> x.vote(1, 1, 21), -103);
    }

    private void voicesBounds() {
        says("Terms", "VOICES for each QUESTION (-40 to 40");
        DearVotes x = Houses.of(1, 2000);
        due("40", x.vote(0, 0, 40), 1600);
        refused(x, "41", () -> x.vote(0, 0, 41), -102);
        due("voices are 40", x.voices(0, 0), 40);
        due("-40", x.vote(0, 0, -40), 1600);
        refused(x, "-41", () -> x.vote(0, 0, -41), -102);
        due("voices are -40", x.voices(0, 0), -40);
    }

    private void voicesAtFirst() {
        says("Terms", "VOICES for each QUESTION (-40 to 40; 0 at first)");
        DearVotes x = full(2000);
        for (int p = 0; p < 12; p++) {
            for (int q = 0; q < 6; q++) {
                due("voices(" + p + ", " + q + ")", x.voices(p, q), 0);
            }
            due("cost(" + p + ")", x.cost(p), 0);
        }
        DearVotes later = Houses.of(1, 9);
        later.vote(0, 0, 3);
        later.question();
        later.person(9);
        due("for a later question", later.voices(0, 1), 0);
        due("of a later person", later.voices(1, 0), 0);
        due("of both", later.voices(1, 1), 0);
    }

    private void worthBounds() {
        says("Terms", "a WORTH of each (-1000 to 1000");
        DearVotes x = Houses.of(1, 9);
        x.vote(0, 0, 1);
        due("1000", x.worth(0, 0, 1000), 0);
        refused(x, "1001", () -> x.worth(0, 0, 1001), -102);
        due("gain by 1000", x.gain(0), 2000);
        due("-1000", x.worth(0, 0, -1000), 1000);
        refused(x, "-1001", () -> x.worth(0, 0, -1001), -102);
        due("gain by -1000", x.gain(0), -2000);
    }

    private void worthAtFirst() {
        says("Terms", "a WORTH of each (-1000 to 1000; 0 at first)");
        DearVotes x = full(2000);
        for (int p = 0; p < 12; p++) {
            for (int q = 0; q < 6; q++) {
                due("worth(" + p + ", " + q + ", 1)", x.worth(p, q, 1), 0);
            }
        }
        DearVotes later = Houses.of(1, 9);
        later.worth(0, 0, 3);
        later.question();
        later.person(9);
        due("of a later question", later.worth(0, 1, 1), 0);
        due("to a later person", later.worth(1, 0, 1), 0);
    }

    private void hereAtFirst() {
        says("Terms", "and is HERE or ABSENT (HERE at first)");
        DearVotes x = full(0);
        due("all are HERE", x.count(3), 12);
        for (int p = 0; p < 12; p++) {
            due("here(" + p + ", false)", x.here(p, false), 1);
            due("count(3)", x.count(3), 11 - p);
        }
        DearVotes later = Houses.of(0, 9);
        later.here(0, false);
        later.person(9);
        due("a later person", later.here(1, true), 1);
    }

    private void costOfAllVoices() {
        says("Terms", "COST of a PERSON: the sum of the squares of all VOICES");
        DearVotes x = Houses.of(6, 2000, 2000);
        due("none yet", x.cost(0), 0);
        int cost = 0;
        for (int q = 0; q < 6; q++) {
            cost += 324;
            due("18 or -18 for question " + q, x.vote(0, q, q % 2 == 0 ? 18 : -18), cost);
        }
        due("all six", x.cost(0), 1944);
        due("another one has none", x.cost(1), 0);
        due("no questions", Houses.of(0, 5).cost(0), 0);
    }

    private void costAtMostBudget() {
        says("Terms", "it is at most the BUDGET");
        DearVotes x = Houses.of(3, 50);
        due("25 of 50", x.vote(0, 0, 5), 25);
        due("50 of 50", x.vote(0, 1, 5), 50);
        refused(x, "51 of 50", () -> x.vote(0, 2, 1), -103);
        refused(x, "61 of 50", () -> x.vote(0, 0, -6), -103);
        due("others of like cost", x.vote(0, 0, -5), 50);
        due("fewer", x.vote(0, 1, -4), 41);
        due("50 of 50 again", x.vote(0, 2, 3), 50);
    }

    private void countOfThoseHere() {
        says("Terms", "THE COUNT of a QUESTION: the sum of VOICES of those who are HERE");
        DearVotes nobody = Houses.of(1);
        due("nobody there yet", nobody.total(0), 0);
        DearVotes x = full(2000);
        for (int p = 0; p < 12; p++) {
            x.vote(p, 5, 40);
            x.vote(p, 0, -20);
        }
        due("the greatest", x.total(5), 480);
        due("below", x.total(0), -240);
        x.here(11, false);
        due("one ABSENT", x.total(5), 440);
        for (int p = 0; p < 11; p++) {
            x.here(p, false);
        }
        due("all ABSENT", x.total(5), 0);
        for (int p = 0; p < 12; p++) {
            x.here(p, true);
            x.vote(p, 5, -40);
        }
        due("the least", x.total(5), -480);
    }

    private void resultAboveAndBelow() {
        says("Terms", "Its RESULT: 1 if THE COUNT is above 0, -1 if below");
        DearVotes x = Houses.of(1, 2000, 2000);
        due("by LOT it would be -1", x.result(0), -1);
        x.vote(0, 0, 1);
        due("1", x.result(0), 1);
        x.vote(0, 0, 40);
        x.vote(1, 0, -39);
        due("1 of 40 and -39", x.result(0), 1);
        x.seed(3);
        x.vote(1, 0, -40);
        due("by LOT it would be 1", x.result(0), 1);
        x.vote(0, 0, 39);
        due("-1 of 39 and -40", x.result(0), -1);
        x.vote(0, 0, -40);
        due("-80", x.result(0), -1);
    }

    private void resultOfNothing() {
        says("Terms", "if it is 0, by LOT");
        DearVotes x = Houses.of(1, 2000, 2000);
        lots("no voices", x, 3, 1);
        lots("no voices", x, 0, -1);
        x.vote(0, 0, 40);
        x.vote(1, 0, -40);
        lots("40 and -40", x, 3, 1);
        lots("40 and -40", x, 0, -1);
        x.vote(1, 0, 0);
        x.here(0, false);
        x.here(1, false);
        lots("nobody HERE", x, 3, 1);
        lots("nobody HERE", x, 0, -1);
        DearVotes nobody = Houses.of(1);
        lots("nobody there yet", nobody, 3, 1);
        lots("nobody there yet", nobody, 0, -1);
    }

    private void lots(String when, DearVotes x, int seed, int... dues) {
        x.seed(seed);
        for (int q = 0; q < dues.length; q++) {
            due(when + ", SEED " + seed + ": result(" + q + ")", x.result(q), dues[q]);
        }
    }

    private void lotWraps() {
        says("Terms", ": SEED (an int) times 1664525 and 1013904223 (wrapping)");
        DearVotes x = Houses.of(6);
        lots("first", x, 0, -1, 1, -1, 1, 1, -1);
        lots("small", x, 1, -1, -1, 1, 1, 1, 1);
        lots("below 0", x, -1, 1, 1, -1, 1, 1, -1);
        lots("greatest", x, MAX, 1, 1, -1, 1, 1, -1);
        lots("least", x, MIN, -1, 1, -1, 1, 1, -1);
        lots("bit 20", x, 1 << 20, 1, -1, 1, -1, -1, 1);
        lots("bit 20, below 0", x, -(1 << 20), 1, -1, 1, -1, -1, 1);
    }

    private void lotOneTimeMore() {
        says("Terms", "done one time more than its number says");
        DearVotes x = Houses.of(6);
        // Done one time less or one time more, each of these would be the other one.
        lots("question 0, once", x, 9, 1);
        lots("question 0, once", x, -48, -1);
        x.seed(-47);
        due("question 5, six times", x.result(5), 1);
        x.seed(-42);
        due("question 5, six times", x.result(5), -1);
    }

    private void lotBitTwenty() {
        says("Terms", "1, if bit 20 of that is set, else -1");
        DearVotes x = Houses.of(6);
        // Bits 11, 19 and 21 are the other way round.
        lots("set", x, -39, 1);
        lots("clear", x, -43, -1);
        x.seed(4);
        due("set, question 5", x.result(5), 1);
        x.seed(-32);
        due("clear, question 5", x.result(5), -1);
    }

    private void gainAboveAtAndBelow() {
        says("Terms", "A PERSON's GAIN: the sum over all QUESTIONS of twice the WORTH where"
            + " THE COUNT is above 0, once where it is 0, nothing where it is below");
        DearVotes x = Houses.of(3, 2000, 2000);
        Houses.worths(x, 0, 7, 50, 300);
        Houses.votes(x, 0, 1, 0, -1);
        due("1, 0 and -1", x.gain(0), 64);
        x.seed(3);
        due("whatever the LOT says", x.gain(0), 64);
        Houses.votes(x, 1, -1, 1, 1);
        due("0, 1 and 0", x.gain(0), 407);
        Houses.votes(x, 1, -2, -1, 2);
        due("-1, -1 and 1", x.gain(0), 600);
        Houses.votes(x, 1, 40, 2, -3);
        due("41, 2 and -4", x.gain(0), 114);
        Houses.worths(x, 0, -7, -50, -300);
        due("WORTHS below 0", x.gain(0), -114);
        due("no QUESTIONS", Houses.of(0, 9).gain(0), 0);
    }

    private void gainGreatestAndLeast() {
        says("Terms", "the sum over all QUESTIONS of twice the WORTH");
        DearVotes x = Houses.of(6, 2000, 2000);
        Houses.worths(x, 0, 1000, 1000, 1000, 1000, 1000, 1000);
        Houses.worths(x, 1, -1000, -1000, -1000, -1000, -1000, -1000);
        due("counts of 0", x.gain(0), 6000);
        due("counts of 0, the least WORTHS", x.gain(1), -6000);
        Houses.votes(x, 0, 1, 1, 1, 1, 1, 1);
        due("the greatest", x.gain(0), 12000);
        due("the least", x.gain(1), -12000);
        Houses.votes(x, 0, -1, -1, -1, -1, -1, -1);
        due("nothing", x.gain(0), 0);
        due("nothing, the least WORTHS", x.gain(1), 0);
    }

    private void bestAgainstOthers() {
        says("Terms", "THE BEST VOICES of a PERSON, all others' as they are");
        DearVotes x = Houses.of(1, 100, 100, 100);
        x.worth(0, 0, 5);
        bests("no others' voices", x, 0, 10, 1);
        x.vote(1, 0, -3);
        x.vote(2, 0, -4);
        bests("-7 of two", x, 0, 10, 8);
        x.vote(0, 0, -10);
        bests("its own are not others'", x, 0, 10, 8);
        x.here(2, false);
        bests("-3 of the one who is HERE", x, 0, 10, 4);
        x.here(1, false);
        bests("nobody else HERE", x, 0, 10, 1);
        DearVotes alone = Houses.of(1, 1);
        alone.worth(0, 0, 5);
        bests("nobody else there", alone, 0, 10, 1);
    }

    private void bestWithinBudget() {
        says("Terms", ": those, HERE, of COST at most the BUDGET");
        DearVotes x = Houses.of(1, 25, 24, 16, 15, 2000);
        x.vote(4, 0, -4);
        for (int p = 0; p < 4; p++) {
            x.worth(p, 0, 5);
        }
        bests("25 for 5 voices", x, 0, 10, 5);
        bests("24: too little for 5", x, 1, 5, 4);
        bests("16 for 4 voices", x, 2, 5, 4);
        bests("15: too little for 4", x, 3, 0, 0);
        x.here(0, false);
        bests("HERE, though it is ABSENT", x, 0, 10, 5);

        DearVotes two = Houses.of(2, 2000, 1999, 0, 2000);
        Houses.votes(two, 3, -39, -19);
        for (int p = 0; p < 3; p++) {
            Houses.worths(two, p, 5, 5);
        }
        bests("2000 for 40 and 20", two, 0, 20, 40, 20);
        bests("1999: 39 and 20 are dear enough", two, 1, 15, 39, 20);
        bests("0 buys nothing", two, 2, 0, 0, 0);
        Houses.votes(two, 3, 0, 0);
        bests("0 and no voices", two, 2, 10, 0, 0);
        bests("no QUESTIONS", Houses.of(0, 2000), 0, 0);
    }

    private void bestWithinForty() {
        says("Terms", "VOICES for each QUESTION (-40 to 40");
        DearVotes x = Houses.of(1, 2000, 2000, 2000);
        x.worth(0, 0, 5);
        x.vote(1, 0, -39);
        bests("40 against -39", x, 0, 10, 40);
        x.vote(1, 0, -40);
        bests("41 are too many: 40 make it 0", x, 0, 5, 40);
        x.vote(2, 0, -1);
        bests("41 are too many even for 0", x, 0, 0, 0);
        x.worth(0, 0, -5);
        x.vote(1, 0, 39);
        x.vote(2, 0, 0);
        bests("-40 against 39", x, 0, 0, -40);
        x.vote(1, 0, 40);
        bests("-41 are too many: -40 make it 0", x, 0, -5, -40);
        x.vote(2, 0, 1);
        bests("-41 are too many even for 0", x, 0, -10, 0);
        x.vote(2, 0, 40);
        bests("against 80", x, 0, -10, 0);
    }

    private void bestGreatestGain() {
        says("Terms", "with the greatest GAIN");
        DearVotes x = Houses.of(2, 4, 9);
        x.vote(1, 0, -1);
        Houses.worths(x, 0, 6, 5);
        bests("17 at a COST of 4, not 16 at 2", x, 0, 17, 2, 0);
        Houses.worths(x, 0, 5, 6);
        bests("17 at a COST of 2, not 16 at 4", x, 0, 17, 1, 1);

        DearVotes six = Houses.of(6, 6, 4);
        Houses.worths(six, 0, 1000, 1000, 1000, 1000, 1000, 1000);
        bests("the greatest there is", six, 0, 12000, 1, 1, 1, 1, 1, 1);
        Houses.worths(six, 0, -1000, -1000, -1000, -1000, -1000, -1000);
        bests("nothing rather than -12000", six, 0, 0, -1, -1, -1, -1, -1, -1);
        Houses.votes(six, 1, 1, 1, 1, 1);
        bests("-4000 where 6 buy no more", six, 0, -4000, -1, -1, -1, -1, -1, -1);
    }

    private void bestLeastCost() {
        says("Terms", "of like ones those of least COST");
        DearVotes x = Houses.of(2, 4, 9);
        x.vote(1, 0, -1);
        Houses.worths(x, 0, 5, 5);
        bests("15 at 2, not at 4", x, 0, 15, 1, 1);
        x.vote(1, 0, 0);
        x.vote(1, 1, -1);
        bests("least COST is ahead of least VOICES", x, 0, 15, 1, 1);
        Houses.worths(x, 0, 0, 0);
        bests("nothing is worth anything", x, 0, 0, 0, 0);
        Houses.votes(x, 1, 2, 1);
        Houses.worths(x, 0, 5, 5);
        bests("all is won already", x, 0, 20, 0, 0);
        Houses.votes(x, 1, 0, 0);
        Houses.votes(x, 0, 2, 0);
        bests("1 for each is enough", x, 0, 20, 1, 1);
    }

    private void bestLeastVoices() {
        says("Terms", "of these those with the least VOICES for QUESTION 0, then 1, and so on");
        DearVotes x = Houses.of(6, 1);
        Houses.worths(x, 0, 5, 5, 5, 5, 5, 5);
        bests("0 is less than 1", x, 0, 35, 0, 0, 0, 0, 0, 1);
        Houses.worths(x, 0, -5, -5, -5, -5, -5, -5);
        bests("-1 is less than 0", x, 0, -25, -1, 0, 0, 0, 0, 0);
        Houses.worths(x, 0, 0, -5, -5, 0, 0, 0);
        bests("then 1", x, 0, -5, 0, -1, 0, 0, 0, 0);
        Houses.worths(x, 0, 0, 5, 5, 0, 0, 0);
        bests("then 1, above 0", x, 0, 15, 0, 0, 1, 0, 0, 0);
        Houses.worths(x, 0, 0, 0, 0, 0, 5, 5);
        bests("and so on, to the last", x, 0, 15, 0, 0, 0, 0, 0, 1);
        Houses.worths(x, 0, 0, 0, 0, 0, -5, -5);
        bests("and so on, to the last, below 0", x, 0, -5, 0, 0, 0, 0, -1, 0);
        Houses.worths(x, 0, 5, -5, 0, 0, 0, 0);
        bests("0 and -1, not 1 and 0", x, 0, 5, 0, -1, 0, 0, 0, 0);
    }
}
