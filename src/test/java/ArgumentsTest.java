import java.util.function.ToLongFunction;

/**
 * Each call with each of its arguments at the edges and beyond, in houses empty, small and full:
 * the program and PlainHouse answer alike, and are alike behind that.
 */
public final class ArgumentsTest {
    private static final int MIN = Integer.MIN_VALUE;
    private static final int MAX = Integer.MAX_VALUE;

    private static final int[] NUMBERS = {MIN, -1, 0, 1, 2, 5, 6, 11, 12, MAX};
    private static final int[] VOICES = {MIN, -41, -40, -3, 0, 1, 40, 41, MAX};
    private static final int[] WORTHS = {MIN, -1001, -1000, 0, 1000, 1001, MAX};
    private static final int[] BUDGETS = {MIN, -1, 0, 3, 2001, MAX};
    private static final int[] ROUNDS = {MIN, -1, 0, 1, 2, 30, 31, MAX};
    private static final int[] GIFTS = {MIN, -1, 0, 1, 1000000, 1000001, MAX};
    private static final int[] BONDS = {MIN, -1, 0, 1, 999, 1000, 1001, MAX};
    private static final int[] SIDES = {MIN, -1, 0, 1, 2, MAX};
    private static final long[] POTS = {Long.MIN_VALUE, MIN, -1, 0, 1, 999999999, 1000000000,
        1000000001, 1L << 32, Long.MAX_VALUE};
    private static final int[] LIKE = {MIN, -1, 0, 1, 500, 1000, 1001, MAX};
    private static final int[] WHAT = {MIN, -1, 0, 1, 2, 3, 4, 5, 6, MAX};

    /** People, questions, projects. */
    private static final int[][] SIZES = {
        {0, 0, 0}, {1, 0, 0}, {0, 1, 1}, {1, 1, 1}, {2, 2, 2}, {11, 5, 5}, {12, 6, 6}};
    /** An object has 512 calls: it is left ahead of that. */
    private static final int MOST_CALLS = 500;

    private static final Checks checks = new Checks();

    private final int[] sizes;
    private DearVotes x;
    private PlainHouse y;
    private int calls;

    private ArgumentsTest(int[] sizes) {
        this.sizes = sizes;
        begin();
    }

    public static void main(String[] args) {
        for (int[] sizes : SIZES) {
            checks.at(sizes[0] + " people, " + sizes[1] + " questions, " + sizes[2] + " projects: ");
            ArgumentsTest test = new ArgumentsTest(sizes);
            test.houses();
            test.ofOnePerson();
            test.voicesAndWorths();
            test.questions();
            test.plays();
            test.giftsAndBonds();
            test.projects();
            test.told();
        }
        checks.end();
    }

    private void begin() {
        x = new DearVotes();
        y = new PlainHouse();
        calls = 0;
        for (int p = 0; p < sizes[0]; p++) {
            int budget = p % 5;
            both("person", h -> h.person(budget), h -> h.person(budget));
        }
        for (int q = 0; q < sizes[1]; q++) {
            both("question", DearVotes::question, PlainHouse::question);
        }
        for (int j = 0; j < sizes[2]; j++) {
            both("project", DearVotes::project, PlainHouse::project);
        }
        for (int p = 0; p < sizes[0]; p++) {
            fill(p);
        }
    }

    private void fill(int p) {
        for (int q = 0; q < sizes[1]; q++) {
            int at = q;
            int w = (p * 7 + q * 5) % 13 - 6;
            both("worth", h -> h.worth(p, at, w), h -> h.worth(p, at, w));
        }
        for (int j = 0; j < sizes[2]; j++) {
            int at = j;
            int g = (p * 5 + j * 3) % 11;
            both("gift", h -> h.gift(p, at, g), h -> h.gift(p, at, g));
        }
        both("take", h -> h.take(p), h -> h.take(p));
    }

    private void both(String call, ToLongFunction<DearVotes> of, ToLongFunction<PlainHouse> plain) {
        calls++;
        checks.due(call, of.applyAsLong(x), plain.applyAsLong(y));
    }

    private void ask(String call, ToLongFunction<DearVotes> of, ToLongFunction<PlainHouse> plain) {
        if (calls + 2 > MOST_CALLS) {
            begin();
        }
        both(call, of, plain);
        both(call + ": digest behind it", DearVotes::digest, PlainHouse::digest);
    }

    private void houses() {
        for (int b : BUDGETS) {
            ask("person(" + b + ")", h -> h.person(b), h -> h.person(b));
            begin();
        }
        ask("question()", DearVotes::question, PlainHouse::question);
        ask("project()", DearVotes::project, PlainHouse::project);
        for (int seed : NUMBERS) {
            ask("seed(" + seed + ")", h -> h.seed(seed), h -> h.seed(seed));
        }
        begin();
    }

    private void ofOnePerson() {
        for (int p : NUMBERS) {
            String of = "(" + p + ")";
            ask("cost" + of, h -> h.cost(p), h -> h.cost(p));
            ask("gain" + of, h -> h.gain(p), h -> h.gain(p));
            ask("swings" + of, h -> h.swings(p), h -> h.swings(p));
            ask("best" + of, h -> h.best(p), h -> h.best(p));
            ask("take" + of, h -> h.take(p), h -> h.take(p));
            ask("here, false" + of, h -> h.here(p, false), h -> h.here(p, false));
            ask("ABSENT: gain" + of, h -> h.gain(p), h -> h.gain(p));
            ask("ABSENT: swings" + of, h -> h.swings(p), h -> h.swings(p));
            ask("ABSENT: best" + of, h -> h.best(p), h -> h.best(p));
            ask("ABSENT: take" + of, h -> h.take(p), h -> h.take(p));
            ask("here, true" + of, h -> h.here(p, true), h -> h.here(p, true));
        }
    }

    private void voicesAndWorths() {
        for (int p : NUMBERS) {
            for (int q : NUMBERS) {
                String of = "(" + p + ", " + q;
                ask("voices" + of + ")", h -> h.voices(p, q), h -> h.voices(p, q));
                ask("answer" + of + ")", h -> h.answer(p, q), h -> h.answer(p, q));
                for (int v : VOICES) {
                    ask("vote" + of + ", " + v + ")", h -> h.vote(p, q, v), h -> h.vote(p, q, v));
                }
                for (int w : WORTHS) {
                    ask("worth" + of + ", " + w + ")", h -> h.worth(p, q, w), h -> h.worth(p, q, w));
                }
            }
        }
    }

    private void questions() {
        for (int q : NUMBERS) {
            ask("total(" + q + ")", h -> h.total(q), h -> h.total(q));
            ask("result(" + q + ")", h -> h.result(q), h -> h.result(q));
        }
    }

    private void plays() {
        begin();
        for (int n : ROUNDS) {
            ask("play(" + n + ")", h -> h.play(n), h -> h.play(n));
            ask("ended()", DearVotes::ended, PlainHouse::ended);
            ask("ring()", DearVotes::ring, PlainHouse::ring);
        }
    }

    private void giftsAndBonds() {
        for (int p : NUMBERS) {
            for (int j : NUMBERS) {
                String of = "(" + p + ", " + j + ", ";
                for (int g : GIFTS) {
                    ask("gift" + of + g + ")", h -> h.gift(p, j, g), h -> h.gift(p, j, g));
                }
                for (int k : BONDS) {
                    ask("bond" + of + k + ")", h -> h.bond(p, j, k), h -> h.bond(p, j, k));
                }
            }
        }
    }

    private void projects() {
        for (int j : NUMBERS) {
            for (int side : SIDES) {
                String call = "matched(" + j + ", " + side + ")";
                ask(call, h -> h.matched(j, side), h -> h.matched(j, side));
            }
            for (long pot : POTS) {
                ask("share(" + j + ", " + pot + ")", h -> h.share(j, pot), h -> h.share(j, pot));
            }
            ask("damped(" + j + ")", h -> h.damped(j), h -> h.damped(j));
        }
    }

    private void told() {
        for (int p : NUMBERS) {
            for (int r : NUMBERS) {
                String call = "likeness(" + p + ", " + r + ")";
                ask(call, h -> h.likeness(p, r), h -> h.likeness(p, r));
            }
            for (int t : LIKE) {
                ask("group(" + p + ", " + t + ")", h -> h.group(p, t), h -> h.group(p, t));
            }
        }
        for (int what : WHAT) {
            ask("count(" + what + ")", h -> h.count(what), h -> h.count(what));
        }
    }
}
