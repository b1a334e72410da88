import java.math.BigInteger;
import java.util.ArrayList;
import java.util.List;

/** The document once more, word by word and without any cleverness: ModelTest asks both. */
final class PlainHouse {
    static final class Person {
        int budget;
        boolean here = true;
        final int[] voices = new int[6];
        final int[] worths = new int[6];
        final int[] gifts = new int[6];
        final int[] bonds = {
            1000, 1000, 1000, 1000, 1000, 1000, 1000, 1000, 1000, 1000, 1000, 1000};
    }

    private final List<Person> people = new ArrayList<>();
    private int questions;
    private int projects;
    private int seed;
    private int ended;
    private int ring;
    private int rounds;
    private int changes;

    private int bestGain;
    private int bestCost;
    private int[] best;

    /** As Houses.ofWorths. */
    static PlainHouse ofWorths(int[][] rows) {
        PlainHouse y = new PlainHouse();
        for (int budget : rows[0]) {
            y.person(budget);
        }
        y.questions = rows[1].length;
        for (int p = 0; p < rows[0].length; p++) {
            System.arraycopy(rows[p + 1], 0, y.people.get(p).worths, 0, rows[p + 1].length);
        }
        return y;
    }

    private boolean noPerson(int p) {
        return p < 0 || p >= people.size();
    }

    private boolean noQuestion(int q) {
        return q < 0 || q >= questions;
    }

    private boolean noProject(int j) {
        return j < 0 || j >= projects;
    }

    int person(int budget) {
        if (budget < 0 || budget > 2000) {
            return -102;
        }
        if (people.size() == 12) {
            return -104;
        }
        Person person = new Person();
        person.budget = budget;
        people.add(person);
        return people.size() - 1;
    }

    int question() {
        return questions == 6 ? -104 : questions++;
    }

    int project() {
        return projects == 6 ? -104 : projects++;
    }

    int seed(int x) {
        int before = seed;
        seed = x;
        return before;
    }

    int vote(int p, int q, int v) {
        if (noPerson(p) || noQuestion(q)) {
            return -101;
        }
        if (v < -40 || v > 40) {
            return -102;
        }
        int[] voices = people.get(p).voices;
        int before = voices[q];
        voices[q] = v;
        if (cost(p) > people.get(p).budget) {
            voices[q] = before;
            return -103;
        }
        return cost(p);
    }

    int worth(int p, int q, int w) {
        if (noPerson(p) || noQuestion(q)) {
            return -101;
        }
        if (w < -1000 || w > 1000) {
            return -102;
        }
        int before = people.get(p).worths[q];
        people.get(p).worths[q] = w;
        return before;
    }

    int here(int p, boolean is) {
        if (noPerson(p)) {
            return -101;
        }
        int before = people.get(p).here ? 1 : 0;
        people.get(p).here = is;
        return before;
    }

    int voices(int p, int q) {
        return noPerson(p) || noQuestion(q) ? -2000 : people.get(p).voices[q];
    }

    int cost(int p) {
        if (noPerson(p)) {
            return -101;
        }
        int sum = 0;
        for (int v : people.get(p).voices) {
            sum += v * v;
        }
        return sum;
    }

    int total(int q) {
        if (noQuestion(q)) {
            return -2000;
        }
        int sum = 0;
        for (Person person : people) {
            sum += person.here ? person.voices[q] : 0;
        }
        return sum;
    }

    int result(int q) {
        if (noQuestion(q)) {
            return -101;
        }
        int sign = Integer.signum(total(q));
        if (sign != 0) {
            return sign;
        }
        BigInteger lot = BigInteger.valueOf(seed);
        for (int i = 0; i < q + 1; i++) {
            lot = lot.multiply(BigInteger.valueOf(1664525)).add(BigInteger.valueOf(1013904223));
        }
        return lot.testBit(20) ? 1 : -1;
    }

    int gain(int p) {
        if (noPerson(p)) {
            return -2000000;
        }
        int sum = 0;
        for (int q = 0; q < questions; q++) {
            sum += people.get(p).worths[q] * (Integer.signum(total(q)) + 1);
        }
        return sum;
    }

    int swings(int p) {
        if (noPerson(p)) {
            return -101;
        }
        int bits = 0;
        boolean before = people.get(p).here;
        for (int q = 0; q < questions; q++) {
            people.get(p).here = true;
            int with = result(q);
            people.get(p).here = false;
            bits += with == result(q) ? 0 : 1 << q;
        }
        people.get(p).here = before;
        return bits;
    }

    int best(int p) {
        if (noPerson(p)) {
            return -2000000;
        }
        findBest(p);
        return bestGain;
    }

    int answer(int p, int q) {
        if (noPerson(p) || noQuestion(q)) {
            return -2000;
        }
        findBest(p);
        return best[q];
    }

    int take(int p) {
        if (noPerson(p)) {
            return -101;
        }
        if (!people.get(p).here) {
            return -103;
        }
        findBest(p);
        System.arraycopy(best, 0, people.get(p).voices, 0, 6);
        return cost(p);
    }

    /** All voices that the budget allows, from the least of question 0 on: the first of the best. */
    private void findBest(int p) {
        Person person = people.get(p);
        int[] others = new int[questions];
        for (int q = 0; q < questions; q++) {
            others[q] = total(q) - (person.here ? person.voices[q] : 0);
        }
        best = null;
        enumerate(person, others, new int[6], 0, 0, 0);
    }

    private void enumerate(Person person, int[] others, int[] voices, int q, int gain, int cost) {
        if (q == questions) {
            if (best == null || gain > bestGain || gain == bestGain && cost < bestCost) {
                bestGain = gain;
                bestCost = cost;
                best = voices.clone();
            }
            return;
        }
        for (int v = -40; v <= 40; v++) {
            if (cost + v * v <= person.budget) {
                voices[q] = v;
                int more = person.worths[q] * (Integer.signum(others[q] + v) + 1);
                enumerate(person, others, voices, q + 1, gain + more, cost + v * v);
            }
        }
        voices[q] = 0;
    }

    int play(int n) {
        if (n < 1 || n > 30) {
            return -102;
        }
        ended = 0;
        ring = 0;
        List<String> seen = new ArrayList<>();
        seen.add(allVoices());
        for (int round = 1; round <= n; round++) {
            int changed = round();
            rounds++;
            changes += changed;
            int earlier = seen.indexOf(allVoices());
            if (changed == 0) {
                ended = 1;
                return round;
            }
            if (earlier >= 0) {
                ended = 2;
                ring = round - earlier;
                return round;
            }
            seen.add(allVoices());
        }
        return n;
    }

    private int round() {
        int changed = 0;
        for (int p = 0; p < people.size(); p++) {
            if (people.get(p).here && best(p) > gain(p)) {
                take(p);
                changed++;
            }
        }
        return changed;
    }

    private String allVoices() {
        StringBuilder text = new StringBuilder();
        for (Person person : people) {
            for (int v : person.voices) {
                text.append(v).append(' ');
            }
        }
        return text.toString();
    }

    int ended() {
        return ended;
    }

    int ring() {
        return ring;
    }

    int gift(int p, int j, int g) {
        if (noPerson(p) || noProject(j)) {
            return -101;
        }
        if (g < 0 || g > 1000000) {
            return -102;
        }
        int before = people.get(p).gifts[j];
        people.get(p).gifts[j] = g;
        return before;
    }

    int bond(int p, int r, int k) {
        if (noPerson(p) || noPerson(r)) {
            return -101;
        }
        if (p == r || k < 0 || k > 1000) {
            return -102;
        }
        int before = people.get(p).bonds[r];
        people.get(p).bonds[r] = k;
        people.get(r).bonds[p] = k;
        return before;
    }

    long matched(int j, int side) {
        if (noProject(j)) {
            return -101;
        }
        if (side != 0 && side != 1) {
            return -102;
        }
        return matchedBy(j, side, false);
    }

    private long matchedBy(int j, int side, boolean wholeBonds) {
        BigInteger sum = BigInteger.ZERO;
        for (int p = 0; p < people.size(); p++) {
            for (int r = p + 1; r < people.size(); r++) {
                long k = wholeBonds ? 1000 : people.get(p).bonds[r];
                BigInteger[] root = BigInteger.valueOf(65536)
                    .multiply(BigInteger.valueOf(people.get(p).gifts[j]))
                    .multiply(BigInteger.valueOf(people.get(r).gifts[j])).sqrtAndRemainder();
                boolean more = side == 1 && root[1].signum() != 0;
                BigInteger match = root[0].add(more ? BigInteger.ONE : BigInteger.ZERO);
                sum = sum.add(match.multiply(BigInteger.valueOf(2 * k)));
            }
        }
        BigInteger[] parts = sum.divideAndRemainder(BigInteger.valueOf(256000));
        return parts[0].longValueExact() + (side == 1 && parts[1].signum() != 0 ? 1 : 0);
    }

    long share(int j, long pot) {
        if (noProject(j)) {
            return -101;
        }
        if (pot < 0 || pot > 1000000000L) {
            return -102;
        }
        BigInteger sum = BigInteger.ZERO;
        for (int i = 0; i < projects; i++) {
            sum = sum.add(BigInteger.valueOf(matchedBy(i, 0, false)));
        }
        if (sum.signum() == 0) {
            return 0;
        }
        long[] shares = new long[projects];
        BigInteger[] rests = new BigInteger[projects];
        long lack = pot;
        for (int i = 0; i < projects; i++) {
            BigInteger[] parts = BigInteger.valueOf(pot)
                .multiply(BigInteger.valueOf(matchedBy(i, 0, false))).divideAndRemainder(sum);
            shares[i] = parts[0].longValueExact();
            rests[i] = parts[1];
            lack -= shares[i];
        }
        for (; lack > 0; lack--) {
            int greatest = 0;
            for (int i = 1; i < projects; i++) {
                greatest = rests[i].compareTo(rests[greatest]) > 0 ? i : greatest;
            }
            shares[greatest]++;
            rests[greatest] = BigInteger.valueOf(-1);
        }
        return shares[j];
    }

    long damped(int j) {
        return noProject(j) ? -101 : matchedBy(j, 0, true) - matchedBy(j, 0, false);
    }

    int likeness(int p, int r) {
        if (noPerson(p) || noPerson(r)) {
            return -2001;
        }
        if (cost(p) == 0 || cost(r) == 0) {
            return -2000;
        }
        BigInteger sum = BigInteger.ZERO;
        for (int q = 0; q < 6; q++) {
            sum = sum.add(BigInteger.valueOf(people.get(p).voices[q] * people.get(r).voices[q]));
        }
        BigInteger costs = BigInteger.valueOf(cost(p)).multiply(BigInteger.valueOf(cost(r)));
        int size = sum.pow(2).multiply(BigInteger.valueOf(1000)).divide(costs).intValueExact();
        return sum.signum() < 0 ? -size : size;
    }

    int group(int p, int t) {
        if (noPerson(p)) {
            return -101;
        }
        if (t < 1 || t > 1000) {
            return -102;
        }
        int bits = 1 << p;
        for (int pass = 0; pass < 12; pass++) {
            for (int a = 0; a < people.size(); a++) {
                for (int b = 0; b < people.size(); b++) {
                    if ((bits >> a & 1) == 1 && likeness(a, b) >= t) {
                        bits |= 1 << b;
                    }
                }
            }
        }
        return bits;
    }

    int count(int what) {
        int here = 0;
        for (Person person : people) {
            here += person.here ? 1 : 0;
        }
        int[] counts = {people.size(), questions, projects, here, rounds, changes};
        return what < 0 || what > 5 ? -102 : counts[what];
    }

    long digest() {
        List<Integer> numbers = new ArrayList<>();
        for (int p = 0; p < people.size(); p++) {
            Person person = people.get(p);
            numbers.add(person.budget);
            numbers.add(person.here ? 1 : 0);
            add(numbers, person.voices, questions);
            add(numbers, person.worths, questions);
            add(numbers, person.gifts, projects);
            add(numbers, person.bonds, p);
        }
        numbers.add(seed);
        numbers.add(rounds);
        numbers.add(changes);
        long h = 103;
        for (int number : numbers) {
            h = 31 * h + number;
        }
        return h;
    }

    private static void add(List<Integer> numbers, int[] row, int length) {
        for (int i = 0; i < length; i++) {
            numbers.add(row[i]);
        }
    }
}
