import java.math.BigInteger;

/** Promises 26 to 29. */
final class EdgesOfTelling extends Edges {
    EdgesOfTelling(Checks checks, Sentences sentences) {
        super(checks, sentences);
    }

    @Override
    void run() {
        likenessOfAll();
        likenessNone();
        likenessUnknown();
        groupOfAll();
        groupOfThoseAbsent();
        groupByLikeness();
        groupOneAfterTheOther();
        groupUnknown();
        groupOutside();
        countAtFirstAndAll();
        countOfChanges();
        countOutside();
        digestOfNothing();
        digestOfThoseHere();
        digestInOrder();
        digestWraps();
    }

    private void likenessOfAll() {
        says("Promise 26", "LIKENESS");
        DearVotes x = full(2000);
        Houses.votes(x, 0, 40, 20);
        Houses.votes(x, 11, -40, -20);
        due("the greatest, with itself", x.likeness(11, 11), 1000);
        due("the least", x.likeness(0, 11), -1000);
        x.here(0, false);
        x.here(11, false);
        due("of two PEOPLE, HERE or not", x.likeness(0, 11), -1000);
        x.vote(11, 0, 10);
        due("products that make 0", x.likeness(0, 11), 0);
    }

    private void likenessNone() {
        says("Promise 26", "NONE is told as -2000");
        DearVotes x = full(9);
        x.vote(0, 0, 1);
        refused(x, "COST of the other", () -> x.likeness(0, 11), -2000);
        refused(x, "COST of the one", () -> x.likeness(11, 0), -2000);
        refused(x, "both", () -> x.likeness(11, 10), -2000);
        refused(x, "with itself", () -> x.likeness(11, 11), -2000);
    }

    private void likenessUnknown() {
        says("Promise 26", "UNKNOWN as -2001");
        DearVotes x = Houses.of(1, 9, 9, 9);
        x.vote(0, 0, 1);
        for (int p : new int[] {-1, 3, 12, MIN, MAX}) {
            refused(x, "likeness(" + p + ", 0)", () -> x.likeness(p, 0), -2001);
            refused(x, "likeness(0, " + p + ")", () -> x.likeness(0, p), -2001);
            refused(x, "with itself: " + p, () -> x.likeness(p, p), -2001);
            refused(x, "ahead of NONE: " + p, () -> x.likeness(2, p), -2001);
        }
        DearVotes nothing = new DearVotes();
        refused(nothing, "nobody there yet", () -> nothing.likeness(0, 0), -2001);
    }

    private void groupOfAll() {
        says("Promise 27", "Bits of all PEOPLE that hang together with a PERSON (itself, too)");
        DearVotes x = full(9);
        due("itself alone, the first", x.group(0, 1), 1);
        due("itself alone, the last", x.group(11, 1000), 1 << 11);
        for (int p = 0; p < 12; p++) {
            x.vote(p, 5, p % 3 + 1);
        }
        due("all twelve, the first", x.group(0, 1000), 0xFFF);
        due("all twelve, the last", x.group(11, 1), 0xFFF);
        x.vote(3, 5, 0);
        due("all but one of COST 0", x.group(0, 1000), 0xFF7);
        due("that one", x.group(3, 1), 8);
    }

    /** "All PEOPLE": the document does not say that they must be HERE. */
    private void groupOfThoseAbsent() {
        says("Promise 27", "Bits of all PEOPLE");
        DearVotes x = Houses.of(2, 9, 9, 9);
        Houses.votes(x, 0, 1, 0);
        Houses.votes(x, 1, 1, 1);
        Houses.votes(x, 2, 0, 1);
        x.here(1, false);
        due("by way of one who is ABSENT", x.group(0, 500), 7);
        x.here(0, false);
        due("of one who is ABSENT", x.group(0, 500), 7);
        x.here(2, false);
        due("all are ABSENT", x.group(2, 500), 7);
    }

    private void groupByLikeness() {
        says("Promise 27", "by LIKENESS of t (1 to 1000) and more");
        DearVotes x = Houses.of(5, 2000, 2000, 2000);
        Houses.votes(x, 0, 30, 31);
        Houses.votes(x, 1, 31, 32);
        due("999 of 999", x.group(0, 999), 3);
        due("999 of 1000", x.group(0, 1000), 1);
        Houses.votes(x, 1, 30, 31);
        due("1000 of 1000", x.group(0, 1000), 3);
        Houses.votes(x, 0, 1, 0);
        Houses.votes(x, 1, 1, 30, 9, 3, 3);
        due("1 of 1", x.group(0, 1), 3);
        due("1 of 2", x.group(0, 2), 1);
        Houses.votes(x, 1, 1, 31, 9, 3, 3);
        due("0 of 1", x.group(0, 1), 1);
        Houses.votes(x, 1, -1, 0, 0, 0, 0);
        due("-1000 of 1", x.group(0, 1), 1);
        due("-1000 of 1000", x.group(0, 1000), 1);
    }

    private void groupOneAfterTheOther() {
        says("Promise 27", ", one after the other");
        DearVotes x = full(50);
        // A chain of 11: each is like the next one alone; the numbers run to and fro.
        int[] chain = {11, 0, 10, 1, 9, 2, 8, 3, 7, 4, 6};
        for (int i = 0; i < chain.length; i++) {
            x.vote(chain[i], i / 2, 1);
            x.vote(chain[i], (i + 1) / 2, 1);
        }
        due("from one end", x.group(11, 500), 0xFDF);
        due("from the other end", x.group(6, 500), 0xFDF);
        due("from the middle", x.group(2, 500), 0xFDF);
        due("one who is not of them", x.group(5, 500), 1 << 5);
        x.vote(2, 2, 0);
        x.vote(2, 3, 0);
        due("one is out: one side", x.group(11, 500), 1 << 11 | 1 | 1 << 10 | 1 << 1 | 1 << 9);
        due("one is out: the other side", x.group(6, 500), 1 << 8 | 8 | 1 << 7 | 1 << 4 | 1 << 6);
    }

    private void groupUnknown() {
        says("Promise 27", "UNKNOWN");
        DearVotes x = Houses.of(1, 9, 9);
        for (int p : new int[] {-1, 2, 12, MIN, MAX}) {
            refused(x, "group(" + p + ", 1)", () -> x.group(p, 1), -101);
            refused(x, "ahead of OUTSIDE: group(" + p + ", 0)", () -> x.group(p, 0), -101);
        }
        due("the last one", x.group(1, 1), 2);
        DearVotes nothing = new DearVotes();
        refused(nothing, "nobody there yet", () -> nothing.group(0, 1), -101);
    }

    private void groupOutside() {
        says("Promise 27", "OUTSIDE");
        DearVotes x = Houses.of(1, 9, 9);
        for (int t : new int[] {0, 1001, -1, MIN, MAX}) {
            refused(x, "group(0, " + t + ")", () -> x.group(0, t), -102);
        }
        refused(x, "the least", () -> x.group(0, 1), 1);
        refused(x, "the greatest", () -> x.group(0, 1000), 1);
    }

    private void counts(String when, DearVotes x, int... dues) {
        for (int what = 0; what < dues.length; what++) {
            due(when + ": count(" + what + ")", x.count(what), dues[what]);
        }
    }

    private void countAtFirstAndAll() {
        says("Promise 28", "How many: 0 PEOPLE, 1 QUESTIONS, 2 PROJECTS, 3 PEOPLE that are HERE,"
            + " 4 ROUNDS done ever");
        counts("nothing yet", new DearVotes(), 0, 0, 0, 0, 0, 0);
        DearVotes x = full(9);
        counts("all there may be", x, 12, 6, 6, 12, 0, 0);
        for (int p = 0; p < 12; p++) {
            x.here(p, false);
        }
        counts("all ABSENT", x, 12, 6, 6, 0, 0, 0);
        x.play(30);
        counts("a ROUND of REST is done, too", x, 12, 6, 6, 0, 1, 0);
        DearVotes race = EdgesOfTermsPlay.race();
        race.play(21);
        race.play(30);
        counts("of more than one PLAY", race, 2, 1, 0, 2, 22, 41);
    }

    /** VOICES are what a PERSON has: by a ROUND these change, or stay; who takes is no ROUND. */
    private void countOfChanges() {
        says("Promise 28", "5 changes of VOICES by these");
        DearVotes x = full(6);
        Houses.worths(x, 11, 5, 5, 5, 5, 5, 5);
        x.play(1);
        due("one PERSON changes all six", x.count(5), 1);
        x.play(30);
        due("REST changes nothing", x.count(5), 1);
        x.vote(11, 0, 0);
        due("vote is no ROUND", x.count(5), 1);
        x.take(11);
        due("take is no ROUND", x.count(5), 1);
        due("it has changed VOICES, though", x.voices(11, 0), 1);
        x.vote(11, 0, 0);
        x.play(30);
        due("once more by a ROUND", x.count(5), 2);
        due("two PLAYS of two ROUNDS", x.count(4), 4);
    }

    private void countOutside() {
        says("Promise 28", "OUTSIDE");
        DearVotes x = full(9);
        for (int what : new int[] {-1, 6, MIN, MAX}) {
            refused(x, "count(" + what + ")", () -> x.count(what), -102);
        }
        refused(x, "the first", () -> x.count(0), 12);
        refused(x, "the last", () -> x.count(5), 0);
    }

    private static long digestOf(long... numbers) {
        BigInteger h = BigInteger.valueOf(103);
        for (long number : numbers) {
            h = h.multiply(BigInteger.valueOf(31)).add(BigInteger.valueOf(number));
        }
        return h.longValue();
    }

    private void digestOfNothing() {
        says("Promise 29", "h is 103, then for each of these numbers, in order, 31 times h, and it");
        DearVotes x = new DearVotes();
        due("nothing yet: 0, 0, 0", x.digest(), 3068473L);
        x.question();
        x.project();
        due("QUESTIONS and PROJECTS of nobody", x.digest(), 3068473L);
        x.seed(MAX);
        due("the greatest SEED", x.digest(), digestOf(MAX, 0, 0));
        x.seed(MIN);
        due("the least SEED", x.digest(), digestOf(MIN, 0, 0));
    }

    private void digestOfThoseHere() {
        says("Promise 29", "of each PERSON BUDGET, 1 if HERE, else 0");
        DearVotes x = new DearVotes();
        x.person(0);
        due("the least BUDGET, HERE", x.digest(), digestOf(0, 1, 0, 0, 0));
        x.here(0, false);
        due("ABSENT", x.digest(), digestOf(0, 0, 0, 0, 0));
        x.person(2000);
        due("the greatest BUDGET", x.digest(), digestOf(0, 0, 2000, 1, 1000, 0, 0, 0));
    }

    private void digestInOrder() {
        says("Promise 29", "VOICES, then WORTHS for each QUESTION, GIFTS to each PROJECT, BONDS with"
            + " each PERSON of a lesser number; SEED; what count() tells for 4, 5");
        DearVotes x = Houses.of(2, 5, 1, 9);
        x.project();
        x.project();
        Houses.worths(x, 0, 3, 3);
        Houses.worths(x, 1, -3, -2);
        x.gift(0, 1, 8);
        x.gift(2, 0, 7);
        x.bond(0, 1, 10);
        x.bond(0, 2, 20);
        x.bond(1, 2, 21);
        x.seed(-9);
        x.play(30);
        due("of three PEOPLE", x.digest(), digestOf(
            5, 1, 2, 1, 3, 3, 0, 8,
            1, 1, 0, -1, -3, -2, 0, 0, 10,
            9, 1, 0, 0, 0, 0, 7, 0, 20, 21,
            -9, 4, 8));
    }

    private void digestWraps() {
        says("Promise 29", "(as longs, wrapping)");
        DearVotes x = full(2000);
        long[] numbers = new long[12 * (2 + 6 + 6 + 6) + 66 + 3];
        int at = 0;
        for (int p = 0; p < 12; p++) {
            numbers[at++] = 2000;
            numbers[at++] = p % 2 == 0 ? 1 : 0;
            x.here(p, p % 2 == 0);
            for (int q = 0; q < 6; q++) {
                numbers[at] = q == p % 6 ? 40 : q - 5;
                x.vote(p, q, (int) numbers[at++]);
            }
            for (int q = 0; q < 6; q++) {
                numbers[at] = q % 2 == 0 ? 1000 - p : -1000 + p;
                x.worth(p, q, (int) numbers[at++]);
            }
            for (int j = 0; j < 6; j++) {
                numbers[at] = 1000000 - 7 * p - j;
                x.gift(p, j, (int) numbers[at++]);
            }
            for (int r = 0; r < p; r++) {
                numbers[at] = 1000 - 12 * p - r;
                x.bond(p, r, (int) numbers[at++]);
            }
        }
        numbers[at] = MIN;
        x.seed(MIN);
        due("all there may be", x.digest(), digestOf(numbers));
        due("it is below 0 or beyond an int", x.digest() == (int) x.digest() ? 1 : 0, 0);
    }
}
