import java.util.Arrays;

/** All promises: long runs of calls, each answered by the program and by PlainHouse alike. */
public final class ModelTest {
    /** Questions, greatest budget: so many voices as PlainHouse can still try one by one. */
    private static final int[][] SIZES = {
        {1, 2000}, {2, 2000}, {2, 60}, {3, 120}, {3, 30}, {4, 30}, {5, 14}, {6, 10}};
    /** An object has 512 calls: as many as end a run, with those of its last step. */
    private static final int CALLS = 500;

    private static final Checks checks = new Checks();

    private final DearVotes x = new DearVotes();
    private final PlainHouse y = new PlainHouse();
    private final String name;
    private final int questions;
    private final int budget;
    private final int worth;
    private long chance;
    private int calls;

    private ModelTest(int run) {
        chance = run * 7919L + 17;
        questions = SIZES[run % SIZES.length][0];
        budget = SIZES[run % SIZES.length][1];
        worth = run % 3 == 0 ? 1000 : run % 3 == 1 ? 3 : 20;
        name = "run " + run + ", call ";
    }

    public static void main(String[] args) {
        for (int run = 0; run < 240; run++) {
            new ModelTest(run).go(run % 5 != 0);
        }
        ends();
        checks.end();
    }

    /** The houses whose ends of a PLAY other tests tell: PlainHouse finds the same ends. */
    private static void ends() {
        int[][] great = {{777, 950, 1161}, {1, 0, -1}, {-5, 5, -4}, {2, 2, 2}};
        int[][][] houses = {great, Houses.RACE, Houses.RING_OF_TWO, Houses.RING_OF_THIRTY,
            Houses.REST_AT_THIRTY, Houses.LIKE_COUNTS, Houses.LIKE_COSTS};
        for (int[][] house : houses) {
            DearVotes x = Houses.ofWorths(house);
            PlainHouse y = PlainHouse.ofWorths(house);
            for (int play = 1; play <= 2; play++) {
                String when = "budgets " + Arrays.toString(house[0]) + ", PLAY " + play + ": ";
                checks.due(when + "play(30)", x.play(30), y.play(30));
                checks.due(when + "ended()", x.ended(), y.ended());
                checks.due(when + "ring()", x.ring(), y.ring());
                checks.due(when + "digest()", x.digest(), y.digest());
            }
        }
    }

    /** Of the numbers from least to most, by a run of its own for each test. */
    private int pick(int least, int most) {
        chance = chance * 6364136223846793005L + 1442695040888963407L;
        return least + (int) ((chance >>> 33) % (most - least + 1));
    }

    /** Mostly one of the first numbers, seldom one that lies outside or at its edge. */
    private int number(int size) {
        return pick(0, 14) == 0 ? pick(-2, 13) : pick(0, Math.max(size - 1, 0));
    }

    /** Mostly within, often at the edges, seldom just beyond them. */
    private int within(int least, int most) {
        switch (pick(0, 19)) {
            case 0:
                return least - 1;
            case 1:
                return most + 1;
            case 2:
                return least;
            case 3:
                return most;
            default:
                return pick(least, most);
        }
    }

    private void due(String call, long got, long want) {
        calls++;
        checks.due(name + calls + ": " + call, got, want);
    }

    private void go(boolean filled) {
        if (filled) {
            fill();
        }
        while (calls < CALLS) {
            call();
            due("digest()", x.digest(), y.digest());
        }
        due("ended()", x.ended(), y.ended());
        due("ring()", x.ring(), y.ring());
    }

    private void fill() {
        int people = pick(1, 12);
        for (int p = 0; p < people; p++) {
            int most = pick(0, 2) == 0 ? pick(0, budget) : budget;
            due("person", x.person(most), y.person(most));
        }
        for (int q = 0; q < questions; q++) {
            due("question", x.question(), y.question());
        }
        for (int p = 0; p < people; p++) {
            for (int q = 0; q < questions; q++) {
                int w = pick(-worth, worth);
                due("worth", x.worth(p, q, w), y.worth(p, q, w));
            }
        }
    }

    private void call() {
        switch (pick(0, 5)) {
            case 0:
                callHouse();
                break;
            case 1:
                callVoices();
                break;
            case 2:
                callCounts();
                break;
            case 3:
                callBest();
                break;
            case 4:
                callGifts();
                break;
            default:
                callTold();
        }
    }

    private int p() {
        return number(y.count(0));
    }

    private int q() {
        return number(y.count(1));
    }

    private int j() {
        return number(y.count(2));
    }

    private void callHouse() {
        int a = pick(0, 7);
        int b = pick(0, 9) == 0 ? within(0, 2000) : pick(0, budget);
        boolean hasFew = y.count(1) < questions;
        if (a == 0 && (b <= budget || b > 2000)) {
            due("person(" + b + ")", x.person(b), y.person(b));
        } else if (a == 1 && (hasFew || y.count(1) == 6)) {
            due("question()", x.question(), y.question());
        } else if (a <= 3) {
            due("project()", x.project(), y.project());
        } else if (a <= 5) {
            int seed = pick(0, 1) == 0 ? pick(-9, 9) : pick(0, Integer.MAX_VALUE - 1) * 2;
            due("seed(" + seed + ")", x.seed(seed), y.seed(seed));
        } else {
            int p = p();
            boolean is = pick(0, 2) != 0;
            due("here(" + p + ", " + is + ")", x.here(p, is), y.here(p, is));
        }
    }

    private void callVoices() {
        int p = p();
        int q = q();
        if (pick(0, 2) == 0) {
            int w = pick(0, 4) == 0 ? within(-1000, 1000) : pick(-worth, worth);
            due("worth(" + p + ", " + q + ", " + w + ")", x.worth(p, q, w), y.worth(p, q, w));
        } else {
            int v = pick(0, 2) == 0 ? within(-40, 40) : pick(-3, 3);
            due("vote(" + p + ", " + q + ", " + v + ")", x.vote(p, q, v), y.vote(p, q, v));
        }
    }

    private void callCounts() {
        int p = p();
        int q = q();
        due("voices(" + p + ", " + q + ")", x.voices(p, q), y.voices(p, q));
        due("cost(" + p + ")", x.cost(p), y.cost(p));
        due("total(" + q + ")", x.total(q), y.total(q));
        due("result(" + q + ")", x.result(q), y.result(q));
        due("gain(" + p + ")", x.gain(p), y.gain(p));
        due("swings(" + p + ")", x.swings(p), y.swings(p));
    }

    private void callBest() {
        int p = p();
        int q = q();
        switch (pick(0, 4)) {
            case 0:
                due("best(" + p + ")", x.best(p), y.best(p));
                break;
            case 1:
                due("answer(" + p + ", " + q + ")", x.answer(p, q), y.answer(p, q));
                break;
            case 2:
                due("take(" + p + ")", x.take(p), y.take(p));
                break;
            default:
                int n = pick(0, 3) == 0 ? within(1, 30) : pick(1, 8);
                due("play(" + n + ")", x.play(n), y.play(n));
                due("ended()", x.ended(), y.ended());
                due("ring()", x.ring(), y.ring());
        }
    }

    private void callGifts() {
        int p = p();
        int j = j();
        int r = p();
        int kind = pick(0, 5);
        if (kind <= 1) {
            int g = pick(0, 1) == 0 ? within(0, 1000000) : pick(0, 20);
            due("gift(" + p + ", " + j + ", " + g + ")", x.gift(p, j, g), y.gift(p, j, g));
        } else if (kind == 2) {
            int k = within(0, 1000);
            due("bond(" + p + ", " + r + ", " + k + ")", x.bond(p, r, k), y.bond(p, r, k));
        } else if (kind == 3) {
            int side = within(0, 1);
            String call = "matched(" + j + ", " + side + ")";
            due(call, x.matched(j, side), y.matched(j, side));
        } else if (kind == 4) {
            long pot = pick(0, 1) == 0 ? within(0, 1000000000) : pick(0, 40);
            due("share(" + j + ", " + pot + ")", x.share(j, pot), y.share(j, pot));
        } else {
            due("damped(" + j + ")", x.damped(j), y.damped(j));
        }
    }

    private void callTold() {
        int p = p();
        int r = p();
        switch (pick(0, 2)) {
            case 0:
                due("likeness(" + p + ", " + r + ")", x.likeness(p, r), y.likeness(p, r));
                break;
            case 1:
                int t = within(1, 1000);
                due("group(" + p + ", " + t + ")", x.group(p, t), y.group(p, t));
                break;
            default:
                int what = within(0, 5);
                due("count(" + what + ")", x.count(what), y.count(what));
        }
    }
}
