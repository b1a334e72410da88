/** Promises 1 to 14. */
final class EdgesOfVoices extends Edges {
    EdgesOfVoices(Checks checks, Sentences sentences) {
        super(checks, sentences);
    }

    @Override
    void run() {
        newHasNothing();
        newSeed();
        personNumber();
        personOutside();
        personFull();
        personOutsideAheadOfFull();
        questionNumber();
        questionFull();
        projectNumber();
        projectFull();
        seedWasAndBecomes();
        voteCostThen();
        voteUnknown();
        voteOutside();
        voteState();
        worthWas();
        worthUnknown();
        worthOutside();
        hereWas();
        hereUnknown();
        voicesOf();
        voicesUnknown();
        costOf();
        costUnknown();
        totalOf();
        totalUnknown();
        resultOf();
        resultUnknown();
        gainOfThoseAbsent();
        gainUnknown();
        swingsAsBits();
        swingsUnknown();
    }

    private void newHasNothing() {
        says("Promise 1", "No PEOPLE, QUESTIONS, PROJECTS");
        DearVotes x = new DearVotes();
        for (int what = 0; what <= 5; what++) {
            due("count(" + what + ")", x.count(what), 0);
        }
        due("cost(0)", x.cost(0), -101);
        due("total(0)", x.total(0), -2000);
        due("matched(0, 0)", x.matched(0, 0), -101);
        due("ended()", x.ended(), 0);
        due("ring()", x.ring(), 0);
        DearVotes other = new DearVotes();
        other.person(5);
        other.question();
        other.project();
        due("objects are apart: count(0)", x.count(0), 0);
        due("objects are apart: count(1)", x.count(1), 0);
        due("objects are apart: count(2)", x.count(2), 0);
    }

    private void newSeed() {
        says("Promise 1", "SEED is 0");
        DearVotes x = new DearVotes();
        due("seed(5)", x.seed(5), 0);
        due("objects are apart", new DearVotes().seed(6), 0);
        due("the digest has it", new DearVotes().digest(), 103L * 31 * 31 * 31);
    }

    private void personNumber() {
        says("Promise 2", "A PERSON: its number");
        DearVotes x = new DearVotes();
        for (int p = 0; p < 12; p++) {
            due("person(" + p + ")", x.person(p), p);
            due("count(0)", x.count(0), p + 1);
        }
    }

    private void personOutside() {
        says("Promise 2", "OUTSIDE");
        DearVotes x = new DearVotes();
        for (int budget : new int[] {-1, 2001, MIN, MAX}) {
            refused(x, "person(" + budget + ")", () -> x.person(budget), -102);
        }
        due("person(0)", x.person(0), 0);
        due("person(2000)", x.person(2000), 1);
    }

    private void personFull() {
        says("Promise 2", "FULL");
        DearVotes x = full(9);
        refused(x, "person(0)", () -> x.person(0), -104);
        refused(x, "person(2000)", () -> x.person(2000), -104);
        x.here(0, false);
        refused(x, "one is ABSENT, but there", () -> x.person(0), -104);
    }

    private void personOutsideAheadOfFull() {
        says("Promise 2", "OUTSIDE; FULL");
        DearVotes x = full(9);
        refused(x, "person(-1)", () -> x.person(-1), -102);
        refused(x, "person(2001)", () -> x.person(2001), -102);
    }

    private void questionNumber() {
        says("Promise 3", "A QUESTION: its number");
        DearVotes x = new DearVotes();
        for (int q = 0; q < 6; q++) {
            due("question()", x.question(), q);
            due("count(1)", x.count(1), q + 1);
        }
    }

    private void questionFull() {
        says("Promise 3", "FULL");
        DearVotes x = full(9);
        refused(x, "question()", x::question, -104);
        refused(x, "question() again", x::question, -104);
        due("total(6)", x.total(6), -2000);
    }

    private void projectNumber() {
        says("Promise 4", "A PROJECT: its number");
        DearVotes x = new DearVotes();
        for (int j = 0; j < 6; j++) {
            due("project()", x.project(), j);
            due("count(2)", x.count(2), j + 1);
        }
    }

    private void projectFull() {
        says("Promise 4", "FULL");
        DearVotes x = full(9);
        refused(x, "project()", x::project, -104);
        refused(x, "project() again", x::project, -104);
        due("damped(6)", x.damped(6), -101);
    }

    private void seedWasAndBecomes() {
        says("Promise 5", "SEED becomes x: what it was");
        DearVotes x = new DearVotes();
        int before = 0;
        for (int seed : new int[] {MAX, MIN, -1, -101, 1, 0, 7}) {
            due("seed(" + seed + ")", x.seed(seed), before);
            before = seed;
        }
        due("the same again", x.seed(7), 7);
    }

    private void voteCostThen() {
        says("Promise 6", "VOICES of a PERSON for a QUESTION: COST then");
        DearVotes x = full(2000);
        due("the first for the first", x.vote(0, 0, 40), 1600);
        due("the last for the last", x.vote(11, 5, -40), 1600);
        due("2000", x.vote(11, 0, 20), 2000);
        due("none", x.vote(11, 5, 0), 400);
        due("none again", x.vote(11, 5, 0), 400);
        due("others keep theirs", x.cost(0), 1600);
        x.here(0, false);
        due("of one who is ABSENT", x.vote(0, 0, 1), 1);
    }

    private void voteUnknown() {
        says("Promise 6", "UNKNOWN: p, q");
        DearVotes x = Houses.of(2, 9, 9, 9);
        for (int p : new int[] {-1, 3, 12, MIN, MAX}) {
            refused(x, "vote(" + p + ", 0, 1)", () -> x.vote(p, 0, 1), -101);
        }
        for (int q : new int[] {-1, 2, 6, MIN, MAX}) {
            refused(x, "vote(0, " + q + ", 1)", () -> x.vote(0, q, 1), -101);
        }
        refused(x, "both", () -> x.vote(3, 2, 1), -101);
        refused(x, "ahead of OUTSIDE", () -> x.vote(3, 0, 41), -101);
        refused(x, "ahead of OUTSIDE", () -> x.vote(0, 2, 41), -101);
        refused(x, "ahead of STATE", () -> x.vote(0, 2, 4), -101);
        due("the last ones", x.vote(2, 1, 1), 1);
        DearVotes nothing = new DearVotes();
        refused(nothing, "nothing there yet", () -> nothing.vote(0, 0, 0), -101);
        DearVotes people = Houses.of(0, 9);
        refused(people, "no questions yet", () -> people.vote(0, 0, 0), -101);
        DearVotes questions = Houses.of(1);
        refused(questions, "no people yet", () -> questions.vote(0, 0, 0), -101);
    }

    private void voteOutside() {
        says("Promise 6", "OUTSIDE");
        DearVotes x = Houses.of(1, 2000, 0);
        for (int v : new int[] {-41, 41, 256, 65536, MIN, MAX}) {
            refused(x, "vote(0, 0, " + v + ")", () -> x.vote(0, 0, v), -102);
            refused(x, "ahead of STATE: vote(1, 0, " + v + ")", () -> x.vote(1, 0, v), -102);
        }
        due("40", x.vote(0, 0, 40), 1600);
        due("-40", x.vote(0, 0, -40), 1600);
    }

    private void voteState() {
        says("Promise 6", "STATE: COST would be above the BUDGET");
        DearVotes x = Houses.of(2, 25, 0);
        Houses.votes(x, 0, 3, 4);
        refused(x, "32 of 25", () -> x.vote(0, 0, 4), -103);
        refused(x, "34 of 25", () -> x.vote(0, 1, -5), -103);
        refused(x, "1 of 0", () -> x.vote(1, 0, 1), -103);
        refused(x, "-1 of 0", () -> x.vote(1, 0, -1), -103);
        refused(x, "1600 of 0", () -> x.vote(1, 1, -40), -103);
        due("25 of 25", x.vote(0, 0, -3), 25);
        due("0 of 0", x.vote(1, 0, 0), 0);
        due("what is replaced does not count", x.vote(0, 1, 0), 9);
        due("25 of 25 in one", x.vote(0, 0, 5), 25);
        DearVotes y = Houses.of(1, 24, 25);
        refused(y, "25 of 24", () -> y.vote(0, 0, 5), -103);
        due("25 of 25", y.vote(1, 0, 5), 25);
    }

    private void worthWas() {
        says("Promise 7", "WORTH of a QUESTION to a PERSON: what it was");
        DearVotes x = full(9);
        due("the first", x.worth(0, 0, 1000), 0);
        due("the last", x.worth(11, 5, -1000), 0);
        due("the first again", x.worth(0, 0, -1), 1000);
        due("the last again", x.worth(11, 5, 1), -1000);
        due("back to 0", x.worth(0, 0, 0), -1);
        due("from 0", x.worth(0, 0, 0), 0);
    }

    private void worthUnknown() {
        says("Promise 7", "UNKNOWN");
        DearVotes x = Houses.of(2, 9, 9, 9);
        for (int p : new int[] {-1, 3, 12, MIN, MAX}) {
            refused(x, "worth(" + p + ", 0, 1)", () -> x.worth(p, 0, 1), -101);
        }
        for (int q : new int[] {-1, 2, 6, MIN, MAX}) {
            refused(x, "worth(0, " + q + ", 1)", () -> x.worth(0, q, 1), -101);
        }
        refused(x, "ahead of OUTSIDE", () -> x.worth(3, 0, 1001), -101);
        refused(x, "ahead of OUTSIDE", () -> x.worth(0, 2, -1001), -101);
        due("the last ones", x.worth(2, 1, 1), 0);
        DearVotes nothing = new DearVotes();
        refused(nothing, "nothing there yet", () -> nothing.worth(0, 0, 0), -101);
    }

    private void worthOutside() {
        says("Promise 7", "OUTSIDE");
        DearVotes x = Houses.of(1, 9);
        x.worth(0, 0, 7);
        for (int w : new int[] {-1001, 1001, MIN, MAX}) {
            refused(x, "worth(0, 0, " + w + ")", () -> x.worth(0, 0, w), -102);
        }
        due("1000", x.worth(0, 0, 1000), 7);
        due("-1000", x.worth(0, 0, -1000), 1000);
    }

    private void hereWas() {
        says("Promise 8", "A PERSON is HERE (true) or ABSENT: 1 if HERE ahead of that, else 0");
        DearVotes x = full(9);
        for (int p : new int[] {0, 11}) {
            due("here(" + p + ", true), HERE at first", x.here(p, true), 1);
            due("here(" + p + ", false)", x.here(p, false), 1);
            due("here(" + p + ", false) again", x.here(p, false), 0);
            due("count(3)", x.count(3), 11);
            due("here(" + p + ", true)", x.here(p, true), 0);
            due("here(" + p + ", true) again", x.here(p, true), 1);
            due("count(3)", x.count(3), 12);
        }
    }

    private void hereUnknown() {
        says("Promise 8", "UNKNOWN");
        DearVotes x = Houses.of(0, 9, 9);
        for (int p : new int[] {-1, 2, 12, MIN, MAX}) {
            refused(x, "here(" + p + ", true)", () -> x.here(p, true), -101);
            refused(x, "here(" + p + ", false)", () -> x.here(p, false), -101);
        }
        DearVotes nothing = new DearVotes();
        refused(nothing, "nobody there yet", () -> nothing.here(0, false), -101);
    }

    private void voicesOf() {
        says("Promise 9", "VOICES of a PERSON for a QUESTION");
        DearVotes x = full(2000);
        x.vote(0, 0, 40);
        x.vote(11, 5, -40);
        due("the greatest", x.voices(0, 0), 40);
        due("the least", x.voices(11, 5), -40);
        due("none yet", x.voices(0, 5), 0);
        x.here(11, false);
        due("of one who is ABSENT", x.voices(11, 5), -40);
    }

    private void voicesUnknown() {
        says("Promise 9", "-2000: UNKNOWN");
        DearVotes x = Houses.of(2, 9, 9, 9);
        for (int p : new int[] {-1, 3, 12, MIN, MAX}) {
            refused(x, "voices(" + p + ", 0)", () -> x.voices(p, 0), -2000);
        }
        for (int q : new int[] {-1, 2, 6, MIN, MAX}) {
            refused(x, "voices(0, " + q + ")", () -> x.voices(0, q), -2000);
        }
        due("the last ones", x.voices(2, 1), 0);
        DearVotes nothing = new DearVotes();
        refused(nothing, "nothing there yet", () -> nothing.voices(0, 0), -2000);
    }

    private void costOf() {
        says("Promise 10", "COST");
        DearVotes x = full(2000);
        due("of none", x.cost(11), 0);
        Houses.votes(x, 11, 40, -20);
        due("the greatest", x.cost(11), 2000);
        x.here(11, false);
        due("of one who is ABSENT", x.cost(11), 2000);
        due("of another", x.cost(0), 0);
    }

    private void costUnknown() {
        says("Promise 10", "UNKNOWN");
        DearVotes x = Houses.of(1, 9, 9);
        for (int p : new int[] {-1, 2, 12, MIN, MAX}) {
            refused(x, "cost(" + p + ")", () -> x.cost(p), -101);
        }
        DearVotes nothing = new DearVotes();
        refused(nothing, "nobody there yet", () -> nothing.cost(0), -101);
    }

    private void totalOf() {
        says("Promise 11", "THE COUNT");
        DearVotes x = full(2000);
        due("of none", x.total(5), 0);
        for (int p = 0; p < 12; p++) {
            x.vote(p, 5, 40);
        }
        due("the greatest", x.total(5), 480);
        for (int p = 0; p < 12; p++) {
            x.vote(p, 5, -40);
        }
        due("the least", x.total(5), -480);
        x.here(0, false);
        due("less one who is ABSENT", x.total(5), -440);
        due("of another", x.total(0), 0);
    }

    private void totalUnknown() {
        says("Promise 11", "-2000: UNKNOWN");
        DearVotes x = Houses.of(2, 9, 9, 9);
        for (int q : new int[] {-1, 2, 6, MIN, MAX}) {
            refused(x, "total(" + q + ")", () -> x.total(q), -2000);
        }
        due("the last one", x.total(1), 0);
        DearVotes nothing = new DearVotes();
        refused(nothing, "no questions yet", () -> nothing.total(0), -2000);
    }

    private void resultOf() {
        says("Promise 12", "RESULT");
        DearVotes x = full(2000);
        due("by LOT", x.result(5), -1);
        x.vote(11, 5, 1);
        due("1", x.result(5), 1);
        x.vote(0, 5, -2);
        due("-1", x.result(5), -1);
        x.here(0, false);
        due("1 by those who are HERE", x.result(5), 1);
    }

    private void resultUnknown() {
        says("Promise 12", "UNKNOWN");
        DearVotes x = Houses.of(2, 9, 9, 9);
        for (int q : new int[] {-1, 2, 6, MIN, MAX}) {
            refused(x, "result(" + q + ")", () -> x.result(q), -101);
        }
        DearVotes nothing = new DearVotes();
        refused(nothing, "no questions yet", () -> nothing.result(0), -101);
    }

    private void gainOfThoseAbsent() {
        says("Promise 13", "GAIN of a PERSON (HERE or not), as all is");
        DearVotes x = Houses.of(2, 9, 9);
        due("no WORTHS yet", x.gain(0), 0);
        Houses.worths(x, 0, 10, -300);
        Houses.votes(x, 0, 1, -1);
        due("HERE: 1 and -1", x.gain(0), 20);
        x.here(0, false);
        due("ABSENT: 0 and 0", x.gain(0), -290);
        Houses.votes(x, 1, -1, 1);
        due("ABSENT: -1 and 1", x.gain(0), -600);
        x.here(0, true);
        due("HERE: 0 and 0", x.gain(0), -290);
    }

    private void gainUnknown() {
        says("Promise 13", "-2000000: UNKNOWN");
        DearVotes x = Houses.of(1, 9, 9);
        for (int p : new int[] {-1, 2, 12, MIN, MAX}) {
            refused(x, "gain(" + p + ")", () -> x.gain(p), -2000000);
        }
        DearVotes nothing = new DearVotes();
        refused(nothing, "nobody there yet", () -> nothing.gain(0), -2000000);
    }

    private void swingsAsBits() {
        says("Promise 14", "QUESTIONS whose RESULT is another one when a PERSON is HERE than when"
            + " it is not, as bits");
        due("no QUESTIONS", Houses.of(0, 9).swings(0), 0);
        DearVotes x = Houses.of(6, 2000, 2000);
        due("no VOICES", x.swings(0), 0);
        Houses.votes(x, 0, 1, 1, 1, 1, 1, 1);
        // By SEED 0 the LOTS are -1, 1, -1, 1, 1, -1: from 0 to 1 those of -1 swing.
        due("by LOT without it", x.swings(0), 0b100101);
        Houses.votes(x, 1, -1, -1, -1, -1, -1, -1);
        // From -1 to 0: those of LOT 1 swing.
        due("by LOT with it", x.swings(0), 0b011010);
        due("the other one, from 1 to 0", x.swings(1), 0b100101);
        Houses.votes(x, 0, 2, 2, 2, 2, 2, 2);
        due("from -1 to 1: all", x.swings(0), 0b111111);
        Houses.votes(x, 0, -2, 1, -2, 0, 0, 3);
        // From -1 to -3, 0, -3, -1, -1, 2: the LOT of question 1 is 1.
        due("the last, and one by LOT", x.swings(0), 0b100010);
        x.here(0, false);
        due("when it is ABSENT, all the same", x.swings(0), 0b100010);
        due("it stays ABSENT", x.here(0, true), 0);
        x.here(1, false);
        // From 0 to -2, 1, -2, 0, 0, 3.
        due("alone", x.swings(0), 0b100000);
        x.seed(-1);
        // The LOTS are 1, 1, -1, 1, 1, -1.
        due("alone, by another SEED", x.swings(0), 0b100001);
    }

    private void swingsUnknown() {
        says("Promise 14", "UNKNOWN");
        DearVotes x = Houses.of(1, 9, 9);
        for (int p : new int[] {-1, 2, 12, MIN, MAX}) {
            refused(x, "swings(" + p + ")", () -> x.swings(p), -101);
        }
        DearVotes nothing = new DearVotes();
        refused(nothing, "nobody there yet", () -> nothing.swings(0), -101);
    }
}
