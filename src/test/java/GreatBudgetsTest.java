import java.util.Arrays;

/**
 * Promises 15 and 16, where PlainHouse can't try all voices one by one: up to six questions and the
 * greatest budgets. A table of all budgets tells what is best from each question on.
 */
public final class GreatBudgetsTest {
    /** More than any cost: so one number holds a gain, and then the least cost. */
    private static final int MORE_THAN_COST = 4096;
    private static final int NOT_REACHED = Integer.MIN_VALUE / 2;

    private static final Checks checks = new Checks();

    private final int people;
    private final int questions;
    private final int[] budgets = new int[12];
    private final int[][] voices = new int[12][6];
    private final int[][] worths = new int[12][6];
    private final boolean[] here = new boolean[12];
    private final DearVotes x = new DearVotes();
    private final int[][] table = new int[7][2001];
    private long chance;

    private GreatBudgetsTest(int run) {
        chance = run * 104729L + 5;
        people = pick(1, 12);
        questions = pick(3, 6);
        checks.at("house " + run + ": ");
    }

    public static void main(String[] args) {
        for (int run = 0; run < 300; run++) {
            GreatBudgetsTest test = new GreatBudgetsTest(run);
            test.fill(run % 4 == 0 ? 1000 : run % 4 == 1 ? 2 : 12, run % 3 == 0 ? 40 : 18);
            for (int p = 0; p < test.people; p++) {
                test.asks(p);
            }
        }
        checks.end();
    }

    private int pick(int least, int most) {
        chance = chance * 6364136223846793005L + 1442695040888963407L;
        return least + (int) ((chance >>> 33) % (most - least + 1));
    }

    private void fill(int mostWorth, int mostVoices) {
        for (int q = 0; q < questions; q++) {
            x.question();
        }
        for (int p = 0; p < people; p++) {
            budgets[p] = pick(0, 2) == 0 ? 2000 : pick(0, 2000);
            x.person(budgets[p]);
            here[p] = pick(0, 5) != 0;
            x.here(p, here[p]);
            for (int q = 0; q < questions; q++) {
                worths[p][q] = pick(-mostWorth, mostWorth);
                x.worth(p, q, worths[p][q]);
                int v = pick(-mostVoices, mostVoices);
                voices[p][q] = x.vote(p, q, v) < 0 ? 0 : v;
            }
        }
    }

    private void asks(int p) {
        fillTable(p);
        checks.due("best(" + p + ")", x.best(p), gainInTable(p));
        int left = budgets[p];
        for (int q = 0; q < questions; q++) {
            int v = leastInTable(p, q, left);
            checks.due("answer(" + p + ", " + q + ")", x.answer(p, q), v);
            left -= v * v;
        }
    }

    private int others(int p, int q) {
        int sum = 0;
        for (int r = 0; r < people; r++) {
            sum += r != p && here[r] ? voices[r][q] : 0;
        }
        return sum;
    }

    private int value(int p, int q, int v) {
        int gain = worths[p][q] * (Integer.signum(others(p, q) + v) + 1);
        return gain * MORE_THAN_COST - v * v;
    }

    /** In row q, at each budget: the greatest value of all voices for question q and those behind. */
    private void fillTable(int p) {
        Arrays.fill(table[questions], 0);
        for (int q = questions - 1; q >= 0; q--) {
            Arrays.fill(table[q], NOT_REACHED);
            for (int v = -40; v <= 40; v++) {
                int value = value(p, q, v);
                for (int left = v * v; left <= budgets[p]; left++) {
                    int with = value + table[q + 1][left - v * v];
                    table[q][left] = Math.max(table[q][left], with);
                }
            }
        }
    }

    private int gainInTable(int p) {
        return -Math.floorDiv(-table[0][budgets[p]], MORE_THAN_COST);
    }

    private int leastInTable(int p, int q, int left) {
        int v = -40;
        while (v * v > left || value(p, q, v) + table[q + 1][left - v * v] != table[q][left]) {
            v++;
        }
        return v;
    }
}
