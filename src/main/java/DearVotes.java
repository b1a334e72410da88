/** A house of dear votes: votes that cost their square, and gifts that are matched by their roots. */
public final class DearVotes {
    public static final int NONE = -1, UNKNOWN = -101, OUTSIDE = -102, STATE = -103, FULL = -104;

    private static final int MOST_PEOPLE = 12;
    private static final int MOST_QUESTIONS = 6;
    private static final int MOST_PROJECTS = 6;
    private static final int MOST_BUDGET = 2000;
    private static final int MOST_VOICES = 40;
    private static final int MOST_WORTH = 1000;
    private static final int MOST_ROUNDS = 30;
    private static final int MOST_GIFT = 1000000;
    private static final int WHOLE_BOND = 1000;
    private static final int WHOLE_LIKENESS = 1000;
    private static final long MOST_POT = 1000000000L;

    // These calls may answer -101 or -1 in earnest, so their refusals lie farther out.
    private static final int UNKNOWN_VOICES = -2000;
    private static final int UNKNOWN_GAIN = -2000000;
    private static final int NO_LIKENESS = -2000;
    private static final int UNKNOWN_LIKENESS = -2001;

    private final House house;
    private final Search search;
    private final Rounds rounds;
    private final Fund fund;

    public DearVotes() {
        house = new House();
        search = new Search(house);
        rounds = new Rounds(house, search);
        fund = new Fund(house);
    }

    // ---- people, questions, projects

    public int person(int budget) {
        if (!isWithin(budget, 0, MOST_BUDGET)) {
            return OUTSIDE;
        }
        if (house.people >= MOST_PEOPLE) {
            return FULL;
        }
        return house.addPerson(budget);
    }

    public int question() {
        if (house.questions >= MOST_QUESTIONS) {
            return FULL;
        }
        house.questions++;
        return house.questions - 1;
    }

    public int project() {
        if (fund.projects >= MOST_PROJECTS) {
            return FULL;
        }
        fund.projects++;
        return fund.projects - 1;
    }

    public int seed(int x) {
        int before = house.seed;
        house.seed = x;
        return before;
    }

    // ---- voices

    public int vote(int p, int q, int v) {
        if (!house.hasPerson(p) || !house.hasQuestion(q)) {
            return UNKNOWN;
        }
        if (!isWithin(v, -MOST_VOICES, MOST_VOICES)) {
            return OUTSIDE;
        }
        int before = house.voices[p][q];
        int costThen = house.costOf(p) - before * before + v * v;
        if (costThen > house.budgets[p]) {
            return STATE;
        }
        house.voices[p][q] = v;
        return costThen;
    }

    public int worth(int p, int q, int w) {
        if (!house.hasPerson(p) || !house.hasQuestion(q)) {
            return UNKNOWN;
        }
        if (!isWithin(w, -MOST_WORTH, MOST_WORTH)) {
            return OUTSIDE;
        }
        int before = house.worths[p][q];
        house.worths[p][q] = w;
        return before;
    }

    public int here(int p, boolean is) {
        if (!house.hasPerson(p)) {
            return UNKNOWN;
        }
        boolean before = house.present[p];
        house.present[p] = is;
        return before ? 1 : 0;
    }

    public int voices(int p, int q) {
        if (!house.hasPerson(p) || !house.hasQuestion(q)) {
            return UNKNOWN_VOICES;
        }
        return house.voices[p][q];
    }

    public int cost(int p) {
        if (!house.hasPerson(p)) {
            return UNKNOWN;
        }
        return house.costOf(p);
    }

    public int total(int q) {
        if (!house.hasQuestion(q)) {
            return UNKNOWN_VOICES;
        }
        return house.countOf(q);
    }

    public int result(int q) {
        if (!house.hasQuestion(q)) {
            return UNKNOWN;
        }
        return house.resultOf(q, house.countOf(q));
    }

    public int gain(int p) {
        if (!house.hasPerson(p)) {
            return UNKNOWN_GAIN;
        }
        return house.gainOf(p);
    }

    public int swings(int p) {
        if (!house.hasPerson(p)) {
            return UNKNOWN;
        }
        return house.swingsOf(p);
    }

    // ---- best answers

    public int best(int p) {
        if (!house.hasPerson(p)) {
            return UNKNOWN_GAIN;
        }
        search.findFor(p);
        return search.foundGain;
    }

    public int answer(int p, int q) {
        if (!house.hasPerson(p) || !house.hasQuestion(q)) {
            return UNKNOWN_VOICES;
        }
        search.findFor(p);
        return search.found[q];
    }

    public int take(int p) {
        if (!house.hasPerson(p)) {
            return UNKNOWN;
        }
        if (!house.present[p]) {
            return STATE;
        }
        search.findFor(p);
        search.giveTo(p);
        return house.costOf(p);
    }

    public int play(int n) {
        if (!isWithin(n, 1, MOST_ROUNDS)) {
            return OUTSIDE;
        }
        return rounds.playAtMost(n);
    }

    public int ended() {
        return rounds.ending;
    }

    public int ring() {
        return rounds.ringLength;
    }

    // ---- gifts

    public int gift(int p, int j, int g) {
        if (!house.hasPerson(p) || !fund.hasProject(j)) {
            return UNKNOWN;
        }
        if (!isWithin(g, 0, MOST_GIFT)) {
            return OUTSIDE;
        }
        int before = fund.gifts[p][j];
        fund.gifts[p][j] = g;
        return before;
    }

    public int bond(int p, int r, int k) {
        if (!house.hasPerson(p) || !house.hasPerson(r)) {
            return UNKNOWN;
        }
        if (p == r || !isWithin(k, 0, WHOLE_BOND)) {
            return OUTSIDE;
        }
        int before = fund.bonds[p][r];
        fund.bonds[p][r] = k;
        fund.bonds[r][p] = k;
        return before;
    }

    public long matched(int j, int side) {
        if (!fund.hasProject(j)) {
            return UNKNOWN;
        }
        if (!isWithin(side, 0, 1)) {
            return OUTSIDE;
        }
        return side == 0 ? fund.matchedLow(j) : fund.matchedHigh(j);
    }

    public long share(int j, long pot) {
        if (!fund.hasProject(j)) {
            return UNKNOWN;
        }
        if (pot < 0 || pot > MOST_POT) {
            return OUTSIDE;
        }
        return fund.shareOf(j, pot);
    }

    public long damped(int j) {
        if (!fund.hasProject(j)) {
            return UNKNOWN;
        }
        return fund.matchedUndamped(j) - fund.matchedLow(j);
    }

    // ---- who is alike

    public int likeness(int p, int r) {
        if (!house.hasPerson(p) || !house.hasPerson(r)) {
            return UNKNOWN_LIKENESS;
        }
        return house.likenessOf(p, r);
    }

    public int group(int p, int t) {
        if (!house.hasPerson(p)) {
            return UNKNOWN;
        }
        if (!isWithin(t, 1, WHOLE_LIKENESS)) {
            return OUTSIDE;
        }
        return house.groupOf(p, t);
    }

    // ---- what is told

    public int count(int what) {
        switch (what) {
            case 0:
                return house.people;
            case 1:
                return house.questions;
            case 2:
                return fund.projects;
            case 3:
                return house.peoplePresent();
            case 4:
                return rounds.doneEver;
            case 5:
                return rounds.changesEver;
            default:
                return OUTSIDE;
        }
    }

    public long digest() {
        long h = 103;
        for (int p = 0; p < house.people; p++) {
            h = house.digestPerson(h, p);
            h = fund.digestPerson(h, p);
        }
        h = 31 * h + house.seed;
        h = 31 * h + rounds.doneEver;
        return 31 * h + rounds.changesEver;
    }

    private static boolean isWithin(int x, int least, int most) {
        return x >= least && x <= most;
    }

    /** The people, the questions, and the voices of the ones for the others. */
    private static final class House {
        int people;
        int questions;
        int seed;
        final int[] budgets = new int[MOST_PEOPLE];
        final boolean[] present = new boolean[MOST_PEOPLE];
        final int[][] voices = new int[MOST_PEOPLE][MOST_QUESTIONS];
        final int[][] worths = new int[MOST_PEOPLE][MOST_QUESTIONS];

        boolean hasPerson(int p) {
            return p >= 0 && p < people;
        }

        boolean hasQuestion(int q) {
            return q >= 0 && q < questions;
        }

        int addPerson(int budget) {
            budgets[people] = budget;
            present[people] = true;
            people++;
            return people - 1;
        }

        int peoplePresent() {
            int sum = 0;
            for (int p = 0; p < people; p++) {
                if (present[p]) {
                    sum++;
                }
            }
            return sum;
        }

        int costOf(int p) {
            int sum = 0;
            for (int q = 0; q < questions; q++) {
                sum += voices[p][q] * voices[p][q];
            }
            return sum;
        }

        int countOf(int q) {
            int sum = 0;
            for (int p = 0; p < people; p++) {
                if (present[p]) {
                    sum += voices[p][q];
                }
            }
            return sum;
        }

        /** What the count would be, if this person were absent. */
        int countWithout(int p, int q) {
            int sum = countOf(q);
            return present[p] ? sum - voices[p][q] : sum;
        }

        int resultOf(int q, int count) {
            if (count != 0) {
                return count > 0 ? 1 : -1;
            }
            int lot = seed;
            for (int i = 0; i <= q; i++) {
                lot = lot * 1664525 + 1013904223;
            }
            return (lot >>> 20 & 1) == 1 ? 1 : -1;
        }

        int gainOf(int p) {
            int sum = 0;
            for (int q = 0; q < questions; q++) {
                sum += gainBy(countOf(q), worths[p][q]);
            }
            return sum;
        }

        static int gainBy(int count, int worth) {
            if (count < 0) {
                return 0;
            }
            return count == 0 ? worth : 2 * worth;
        }

        int swingsOf(int p) {
            int bits = 0;
            for (int q = 0; q < questions; q++) {
                int without = countWithout(p, q);
                if (resultOf(q, without) != resultOf(q, without + voices[p][q])) {
                    bits |= 1 << q;
                }
            }
            return bits;
        }

        int likenessOf(int p, int r) {
            long costs = (long) costOf(p) * costOf(r);
            if (costs == 0) {
                return NO_LIKENESS;
            }
            long sum = 0;
            for (int q = 0; q < questions; q++) {
                sum += voices[p][q] * voices[r][q];
            }
            int size = (int) (sum * sum * WHOLE_LIKENESS / costs);
            return sum < 0 ? -size : size;
        }

        int groupOf(int p, int t) {
            int reached = 1 << p;
            int before = 0;
            for (int pass = 0; pass < people && reached != before; pass++) {
                before = reached;
                for (int r = 0; r < people; r++) {
                    if ((reached >> r & 1) == 1) {
                        reached |= alikeTo(r, t);
                    }
                }
            }
            return reached;
        }

        int alikeTo(int p, int t) {
            int bits = 0;
            for (int r = 0; r < people; r++) {
                if (likenessOf(p, r) >= t) {
                    bits |= 1 << r;
                }
            }
            return bits;
        }

        /** All voices of a person in one number: other voices, another number. */
        long voicesInOne(int p) {
            long code = 0;
            for (int q = 0; q < questions; q++) {
                code = code * (2 * MOST_VOICES + 1) + voices[p][q] + MOST_VOICES;
            }
            return code;
        }

        long digestPerson(long before, int p) {
            long h = 31 * before + budgets[p];
            h = 31 * h + (present[p] ? 1 : 0);
            for (int q = 0; q < questions; q++) {
                h = 31 * h + voices[p][q];
            }
            for (int q = 0; q < questions; q++) {
                h = 31 * h + worths[p][q];
            }
            return h;
        }
    }

    /**
     * The search for a person's best voices.
     *
     * For a question only few voices can be among the best: none, or the fewest that bring the
     * count to a better sign. Any others cost more and gain no more.
     */
    private static final class Search {
        private static final int MOST_CHOICES = 3;
        private static final int BELOW_ALL_GAINS = -1000000;

        final House house;
        final int[] choices = new int[MOST_QUESTIONS];
        final int[][] choiceVoices = new int[MOST_QUESTIONS][MOST_CHOICES];
        final int[][] choiceGains = new int[MOST_QUESTIONS][MOST_CHOICES];
        /** The greatest gain by this question and all behind it, whatever it costs. */
        final int[] gainAhead = new int[MOST_QUESTIONS + 1];
        final int[] tried = new int[MOST_QUESTIONS];
        final int[] found = new int[MOST_QUESTIONS];
        int foundGain;
        int foundCost;
        int budget;

        Search(House house) {
            this.house = house;
        }

        void findFor(int p) {
            budget = house.budgets[p];
            foundGain = BELOW_ALL_GAINS;
            foundCost = 0;
            gainAhead[house.questions] = 0;
            for (int q = house.questions - 1; q >= 0; q--) {
                listChoices(q, house.countWithout(p, q), house.worths[p][q]);
                gainAhead[q] = gainAhead[q + 1] + choiceGains[q][0];
            }
            tryFrom(this, 0, 0, 0);
        }

        void giveTo(int p) {
            System.arraycopy(found, 0, house.voices[p], 0, house.questions);
        }

        /** The choices come with the greatest gain first: so the search cuts off the most. */
        private void listChoices(int q, int others, int worth) {
            choices[q] = 0;
            int better = worth > 0 ? 1 : -1;
            int gainByNone = House.gainBy(others, worth);
            if (House.gainBy(better, worth) > gainByNone) {
                addChoice(q, better - others, House.gainBy(better, worth));
            }
            if (House.gainBy(0, worth) > gainByNone) {
                addChoice(q, -others, House.gainBy(0, worth));
            }
            addChoice(q, 0, gainByNone);
        }

        private void addChoice(int q, int v, int gain) {
            int at = choices[q];
            if (at >= MOST_CHOICES || v < -MOST_VOICES || v > MOST_VOICES) {
                return;
            }
            choiceVoices[q][at] = v;
            choiceGains[q][at] = gain;
            choices[q]++;
        }

        /** Tries all choices from question q on; those ahead of it have this gain and cost. */
        private static void tryFrom(Search s, int q, int gain, int cost) {
            if (q >= s.house.questions) {
                s.keepIfBetter(gain, cost);
                return;
            }
            int reach = gain + s.gainAhead[q];
            if (reach < s.foundGain || reach == s.foundGain && cost > s.foundCost) {
                return;
            }
            for (int i = 0; i < s.choices[q]; i++) {
                int v = s.choiceVoices[q][i];
                if (cost + v * v <= s.budget) {
                    s.tried[q] = v;
                    tryFrom(s, q + 1, gain + s.choiceGains[q][i], cost + v * v);
                }
            }
        }

        private void keepIfBetter(int gain, int cost) {
            if (gain < foundGain) {
                return;
            }
            if (gain == foundGain && (cost > foundCost || cost == foundCost && !triedIsLess())) {
                return;
            }
            foundGain = gain;
            foundCost = cost;
            System.arraycopy(tried, 0, found, 0, house.questions);
        }

        private boolean triedIsLess() {
            for (int q = 0; q < house.questions; q++) {
                if (tried[q] != found[q]) {
                    return tried[q] < found[q];
                }
            }
            return false;
        }
    }

    /** Rounds of best answers, till they rest or go round. */
    private static final class Rounds {
        private static final int OPEN = 0, REST = 1, RING = 2;

        final House house;
        final Search search;
        /** The voices of each person ahead of a play (row 0) and behind each of its rounds. */
        final long[][] trail = new long[MOST_ROUNDS + 1][MOST_PEOPLE];
        int doneEver;
        int changesEver;
        int ending = OPEN;
        int ringLength;

        Rounds(House house, Search search) {
            this.house = house;
            this.search = search;
        }

        int playAtMost(int n) {
            ending = OPEN;
            ringLength = 0;
            noteVoices(0);
            int done = 0;
            while (done < n && done < MOST_ROUNDS && ending == OPEN) {
                int changes = doRound();
                done++;
                doneEver++;
                changesEver += changes;
                noteVoices(done);
                judge(done, changes);
            }
            return done;
        }

        /** How many people changed their voices in it. */
        private int doRound() {
            int changes = 0;
            for (int p = 0; p < house.people; p++) {
                if (house.present[p]) {
                    search.findFor(p);
                    if (search.foundGain > house.gainOf(p)) {
                        search.giveTo(p);
                        changes++;
                    }
                }
            }
            return changes;
        }

        private void noteVoices(int row) {
            for (int p = 0; p < house.people; p++) {
                trail[row][p] = house.voicesInOne(p);
            }
        }

        private void judge(int done, int changes) {
            if (changes == 0) {
                ending = REST;
                return;
            }
            for (int row = 0; row < done; row++) {
                if (isSameTrail(row, done)) {
                    ending = RING;
                    ringLength = done - row;
                }
            }
        }

        private boolean isSameTrail(int row, int other) {
            for (int p = 0; p < house.people; p++) {
                if (trail[row][p] != trail[other][p]) {
                    return false;
                }
            }
            return true;
        }
    }

    /** The projects, the gifts to them, and the bonds that damp their match. */
    private static final class Fund {
        private static final long FINE = 65536;
        /** The root of FINE, times a whole bond. */
        private static final long MATCH_UNIT = 256000;
        /** Above the root of FINE times the greatest gift squared, and its square is a long. */
        private static final long TOP_ROOT_BIT = 1L << 28;

        final House house;
        int projects;
        final int[][] gifts = new int[MOST_PEOPLE][MOST_PROJECTS];
        final int[][] bonds = new int[MOST_PEOPLE][MOST_PEOPLE];
        final long[] lows = new long[MOST_PROJECTS];

        Fund(House house) {
            this.house = house;
            for (int p = 0; p < MOST_PEOPLE; p++) {
                for (int r = 0; r < MOST_PEOPLE; r++) {
                    bonds[p][r] = WHOLE_BOND;
                }
            }
        }

        boolean hasProject(int j) {
            return j >= 0 && j < projects;
        }

        long matchedLow(int j) {
            long sum = 0;
            for (int p = 0; p < house.people; p++) {
                for (int r = 0; r < p; r++) {
                    sum += bonds[p][r] * root(fineProduct(p, r, j));
                }
            }
            return 2 * sum / MATCH_UNIT;
        }

        long matchedUndamped(int j) {
            long sum = 0;
            for (int p = 0; p < house.people; p++) {
                for (int r = 0; r < p; r++) {
                    sum += WHOLE_BOND * root(fineProduct(p, r, j));
                }
            }
            return 2 * sum / MATCH_UNIT;
        }

        long matchedHigh(int j) {
            long sum = 0;
            for (int p = 0; p < house.people; p++) {
                for (int r = 0; r < p; r++) {
                    sum += bonds[p][r] * rootAbove(fineProduct(p, r, j));
                }
            }
            return (2 * sum + MATCH_UNIT - 1) / MATCH_UNIT;
        }

        private long fineProduct(int p, int r, int j) {
            return FINE * gifts[p][j] * gifts[r][j];
        }

        private static long root(long x) {
            long found = 0;
            for (long bit = TOP_ROOT_BIT; bit > 0; bit >>= 1) {
                if ((found + bit) * (found + bit) <= x) {
                    found += bit;
                }
            }
            return found;
        }

        private static long rootAbove(long x) {
            long below = root(x);
            return below * below == x ? below : below + 1;
        }

        long shareOf(int j, long pot) {
            long sum = 0;
            for (int i = 0; i < projects; i++) {
                lows[i] = matchedLow(i);
                sum += lows[i];
            }
            if (sum <= 0) {
                return 0;
            }
            long rest = pot * lows[j] % sum;
            long lack = pot;
            // What lacks is less than the projects with a rest: none is served twice.
            int servedAhead = 0;
            for (int i = 0; i < projects; i++) {
                lack -= pot * lows[i] / sum;
                long other = pot * lows[i] % sum;
                if (other > rest || other == rest && i < j) {
                    servedAhead++;
                }
            }
            long whole = pot * lows[j] / sum;
            return servedAhead < lack ? whole + 1 : whole;
        }

        long digestPerson(long before, int p) {
            long h = before;
            for (int j = 0; j < projects; j++) {
                h = 31 * h + gifts[p][j];
            }
            for (int r = 0; r < p; r++) {
                h = 31 * h + bonds[p][r];
            }
            return h;
        }
    }
}
