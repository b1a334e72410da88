/** Promises 6 to 14: voices, worths, who is here, and what comes of them. */
public final class VoicesTest {
    private static final Checks checks = new Checks();

    public static void main(String[] args) {
        promise6Vote();
        promise6VoteRefusals();
        promise7Worth();
        promise8Here();
        promise9Voices();
        promise10Cost();
        promise11Total();
        promise12Result();
        promise12Lot();
        promise13Gain();
        promise14Swings();
        checks.end();
    }

    private static void promise6Vote() {
        DearVotes x = Houses.of(3, 25, 2000);
        checks.due("vote(0, 0, 3)", x.vote(0, 0, 3), 9);
        checks.due("vote(0, 1, -4)", x.vote(0, 1, -4), 25);
        checks.due("vote(0, 0, 2)", x.vote(0, 0, 2), 20);
        checks.due("vote(0, 2, -2)", x.vote(0, 2, -2), 24);
        checks.due("vote(0, 1, 0)", x.vote(0, 1, 0), 8);
        checks.due("the same again", x.vote(0, 1, 0), 8);
        checks.due("voices(0, 0)", x.voices(0, 0), 2);
        checks.due("voices(1, 0)", x.voices(1, 0), 0);
        checks.due("vote(1, 0, 40)", x.vote(1, 0, 40), 1600);
        checks.due("vote(1, 1, -20)", x.vote(1, 1, -20), 2000);
        checks.due("vote(1, 0, -40)", x.vote(1, 0, -40), 2000);
        x.here(0, false);
        checks.due("one that is ABSENT may vote", x.vote(0, 1, 1), 9);
        checks.due("count(5)", x.count(5), 0);
    }

    private static void promise6VoteRefusals() {
        DearVotes x = Houses.of(2, 25, 0);
        Houses.votes(x, 0, 3, 4);
        checks.refused(x, "vote(-1, 0, 1)", () -> x.vote(-1, 0, 1), -101);
        checks.refused(x, "vote(2, 0, 1)", () -> x.vote(2, 0, 1), -101);
        checks.refused(x, "vote(0, -1, 1)", () -> x.vote(0, -1, 1), -101);
        checks.refused(x, "vote(0, 2, 1)", () -> x.vote(0, 2, 1), -101);
        checks.refused(x, "vote(0, 6, 1)", () -> x.vote(0, 6, 1), -101);
        checks.refused(x, "vote(12, 0, 1)", () -> x.vote(12, 0, 1), -101);
        checks.refused(x, "vote(0, 2, 41)", () -> x.vote(0, 2, 41), -101);
        checks.refused(x, "vote(2, 0, -41)", () -> x.vote(2, 0, -41), -101);
        checks.refused(x, "vote(0, 0, 41)", () -> x.vote(0, 0, 41), -102);
        checks.refused(x, "vote(0, 0, -41)", () -> x.vote(0, 0, -41), -102);
        checks.refused(x, "vote(0, 0, MIN)", () -> x.vote(0, 0, Integer.MIN_VALUE), -102);
        checks.refused(x, "vote(0, 0, 65536)", () -> x.vote(0, 0, 65536), -102);
        checks.refused(x, "vote(0, 0, 4)", () -> x.vote(0, 0, 4), -103);
        checks.refused(x, "vote(0, 0, 40)", () -> x.vote(0, 0, 40), -103);
        checks.refused(x, "vote(0, 1, -5)", () -> x.vote(0, 1, -5), -103);
        checks.refused(x, "vote(1, 0, 1)", () -> x.vote(1, 0, 1), -103);
        checks.due("vote(1, 0, 0)", x.vote(1, 0, 0), 0);
    }

    private static void promise7Worth() {
        DearVotes x = Houses.of(2, 25, 0);
        checks.due("worth(0, 1, 1000)", x.worth(0, 1, 1000), 0);
        checks.due("worth(0, 1, -1000)", x.worth(0, 1, -1000), 1000);
        checks.due("worth(0, 1, 7)", x.worth(0, 1, 7), -1000);
        checks.due("worth(1, 1, 8)", x.worth(1, 1, 8), 0);
        checks.due("worth(0, 0, 9)", x.worth(0, 0, 9), 0);
        checks.due("worth(0, 1, 0)", x.worth(0, 1, 0), 7);
        checks.refused(x, "worth(2, 0, 1)", () -> x.worth(2, 0, 1), -101);
        checks.refused(x, "worth(-1, 0, 1)", () -> x.worth(-1, 0, 1), -101);
        checks.refused(x, "worth(0, 2, 1)", () -> x.worth(0, 2, 1), -101);
        checks.refused(x, "worth(0, -1, 1)", () -> x.worth(0, -1, 1), -101);
        checks.refused(x, "worth(0, 2, 1001)", () -> x.worth(0, 2, 1001), -101);
        checks.refused(x, "worth(2, 0, -1001)", () -> x.worth(2, 0, -1001), -101);
        checks.refused(x, "worth(0, 0, 1001)", () -> x.worth(0, 0, 1001), -102);
        checks.refused(x, "worth(0, 0, -1001)", () -> x.worth(0, 0, -1001), -102);
    }

    private static void promise8Here() {
        DearVotes x = Houses.of(1, 25, 4);
        Houses.votes(x, 0, 3);
        Houses.votes(x, 1, 2);
        checks.due("here(0, true)", x.here(0, true), 1);
        checks.due("here(0, false)", x.here(0, false), 1);
        checks.due("total(0)", x.total(0), 2);
        checks.due("count(3)", x.count(3), 1);
        checks.due("here(0, false) again", x.here(0, false), 0);
        checks.due("here(1, false)", x.here(1, false), 1);
        checks.due("total(0), nobody HERE", x.total(0), 0);
        checks.due("here(0, true)", x.here(0, true), 0);
        checks.due("total(0), back", x.total(0), 3);
        checks.due("VOICES stay when ABSENT", x.voices(1, 0), 2);
        checks.refused(x, "here(2, false)", () -> x.here(2, false), -101);
        checks.refused(x, "here(-1, true)", () -> x.here(-1, true), -101);
    }

    private static void promise9Voices() {
        DearVotes x = Houses.of(2, 25, 25);
        Houses.votes(x, 0, -3, 4);
        checks.due("voices(0, 0)", x.voices(0, 0), -3);
        checks.due("voices(0, 1)", x.voices(0, 1), 4);
        checks.due("voices(1, 1)", x.voices(1, 1), 0);
        checks.refused(x, "voices(2, 0)", () -> x.voices(2, 0), -2000);
        checks.refused(x, "voices(-1, 0)", () -> x.voices(-1, 0), -2000);
        checks.refused(x, "voices(0, 2)", () -> x.voices(0, 2), -2000);
        checks.refused(x, "voices(0, -1)", () -> x.voices(0, -1), -2000);
        checks.refused(x, "voices(MAX, MAX)",
            () -> x.voices(Integer.MAX_VALUE, Integer.MAX_VALUE), -2000);
    }

    private static void promise10Cost() {
        DearVotes x = Houses.of(6, 2000, 25);
        checks.due("cost(0) at first", x.cost(0), 0);
        Houses.votes(x, 0, 1, -2, 3, -4, 5, -6);
        checks.due("cost(0)", x.cost(0), 91);
        checks.due("cost(1)", x.cost(1), 0);
        x.here(0, false);
        checks.due("cost(0) when ABSENT", x.cost(0), 91);
        checks.refused(x, "cost(2)", () -> x.cost(2), -101);
        checks.refused(x, "cost(-1)", () -> x.cost(-1), -101);
    }

    private static void promise11Total() {
        DearVotes x = Houses.of(2, 100, 100, 100);
        Houses.votes(x, 0, 5, -5);
        Houses.votes(x, 1, -7, -1);
        Houses.votes(x, 2, 1, 6);
        checks.due("total(0)", x.total(0), -1);
        checks.due("total(1)", x.total(1), 0);
        x.here(1, false);
        checks.due("total(0) without 1", x.total(0), 6);
        checks.due("total(1) without 1", x.total(1), 1);
        checks.refused(x, "total(2)", () -> x.total(2), -2000);
        checks.refused(x, "total(-1)", () -> x.total(-1), -2000);
    }

    private static void promise12Result() {
        DearVotes x = Houses.of(3, 100, 100);
        Houses.votes(x, 0, 1, -1, 4);
        Houses.votes(x, 1, 0, 0, -5);
        checks.due("result(0)", x.result(0), 1);
        checks.due("result(1)", x.result(1), -1);
        checks.due("result(2)", x.result(2), -1);
        x.here(1, false);
        checks.due("result(2) without 1", x.result(2), 1);
        checks.refused(x, "result(3)", () -> x.result(3), -101);
        checks.refused(x, "result(-1)", () -> x.result(-1), -101);
    }

    /** Ties of all six questions: the lot of question q is drawn q + 1 times from the seed. */
    private static void promise12Lot() {
        DearVotes x = Houses.of(6, 100, 100);
        Houses.votes(x, 0, 1, 2, 3);
        Houses.votes(x, 1, -1, -2, -3);
        int[] seeds = {0, 1, -1, 99, 12345, 1 << 20, Integer.MAX_VALUE, Integer.MIN_VALUE};
        for (int seed : seeds) {
            x.seed(seed);
            java.math.BigInteger lot = java.math.BigInteger.valueOf(seed);
            for (int q = 0; q < 6; q++) {
                lot = lot.multiply(java.math.BigInteger.valueOf(1664525))
                    .add(java.math.BigInteger.valueOf(1013904223));
                String call = "seed " + seed + ": result(" + q + ")";
                checks.due(call, x.result(q), lot.testBit(20) ? 1 : -1);
            }
        }
        // 1013904223 is 0x3C6EF35F: its bit 20 is 0; with SEED 1 it is 1015568748, 0x3C88596C.
        x.seed(0);
        checks.due("seed 0, by hand", x.result(0), -1);
        x.seed(1);
        checks.due("seed 1, by hand", x.result(0), -1);
        // 2 * 1664525 + 1013904223 = 1017233273, 0x3CA1BF79: bit 20 is 0; 3: 0x3CBB2586, it is 1.
        x.seed(3);
        checks.due("seed 3, by hand", x.result(0), 1);
        x.vote(0, 0, 0);
        checks.due("no tie, no lot", x.result(0), -1);
    }

    private static void promise13Gain() {
        DearVotes x = Houses.of(3, 100, 100);
        checks.due("gain(0) without worths", x.gain(0), 0);
        Houses.votes(x, 0, 3, -3, 2);
        Houses.votes(x, 1, -1, 1, -2);
        Houses.worths(x, 0, 10, 100, 7);
        Houses.worths(x, 1, -10, 300, -1000);
        checks.due("gain(0)", x.gain(0), 27);
        checks.due("gain(1)", x.gain(1), -1020);
        x.here(0, false);
        checks.due("gain(0) when ABSENT", x.gain(0), 200);
        checks.due("gain(1) without 0", x.gain(1), 600);
        checks.refused(x, "gain(2)", () -> x.gain(2), -2000000);
        checks.refused(x, "gain(-1)", () -> x.gain(-1), -2000000);
        x.seed(3);
        Houses.votes(x, 1, 0, 0, 0);
        checks.due("the LOT is no gain", x.gain(1), -710);
        Houses.worths(x, 1, 1000, 1000, 1000);
        Houses.votes(x, 1, 1, 1, 1);
        checks.due("the greatest", x.gain(1), 6000);
    }

    private static void promise14Swings() {
        DearVotes x = Houses.of(4, 100, 100, 100);
        Houses.votes(x, 0, 3, -3, 1, 0);
        Houses.votes(x, 1, -2, 2, 1, 5);
        // Counts are 1, -1, 2, 5; without 0 they are -2, 2, 1, 5.
        checks.due("swings(0)", x.swings(0), 3);
        // Without 1 they are 3, -3, 1, 0, and the lot of question 3 decides.
        x.seed(0);
        int lot = x.result(3);
        checks.due("swings(1)", x.swings(1), 0);
        x.here(1, false);
        checks.due("the lot of question 3 is 1 by SEED 0", x.result(3), 1);
        checks.due("the count decided it ahead of that", lot, 1);
        checks.due("swings(1) when ABSENT", x.swings(1), 0);
        x.seed(2);
        checks.due("the lot of question 3 is -1 by SEED 2", x.result(3), -1);
        checks.due("swings(1) against the lot", x.swings(1), 8);
        x.here(1, true);
        checks.due("swings(1) against the lot, HERE", x.swings(1), 8);
        checks.due("swings(2), no voices", x.swings(2), 0);
        x.here(0, false);
        checks.due("swings(0) when ABSENT", x.swings(0), 3);
        checks.due("swings changes nothing", x.here(0, false), 0);
        checks.refused(x, "swings(3)", () -> x.swings(3), -101);
        checks.refused(x, "swings(-1)", () -> x.swings(-1), -101);

        DearVotes all = Houses.of(6, 2000, 2000);
        Houses.votes(all, 0, 1, 1, 1, 1, 1, 1);
        Houses.votes(all, 1, -2, -2, -2, -2, -2, -2);
        checks.due("all six swing", all.swings(1), 63);
    }
}
