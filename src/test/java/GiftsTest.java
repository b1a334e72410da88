/** Promises 21 to 25: gifts, bonds, the match, and the pot. */
public final class GiftsTest {
    private static final Checks checks = new Checks();

    public static void main(String[] args) {
        promise21Gift();
        promise22Bond();
        promise23Matched();
        promise23Bounds();
        promise23Refusals();
        promise24Share();
        promise24Rests();
        promise24Refusals();
        promise25Damped();
        checks.end();
    }

    private static void promise21Gift() {
        DearVotes x = Houses.ofGivers(2, 2);
        checks.due("gift(0, 1, 1000000)", x.gift(0, 1, 1000000), 0);
        checks.due("gift(0, 1, 7)", x.gift(0, 1, 7), 1000000);
        checks.due("gift(0, 0, 3)", x.gift(0, 0, 3), 0);
        checks.due("gift(1, 1, 4)", x.gift(1, 1, 4), 0);
        checks.due("gift(0, 1, 0)", x.gift(0, 1, 0), 7);
        x.here(1, false);
        checks.due("one that is ABSENT gives, too", x.gift(1, 1, 5), 4);
        checks.refused(x, "gift(2, 0, 1)", () -> x.gift(2, 0, 1), -101);
        checks.refused(x, "gift(-1, 0, 1)", () -> x.gift(-1, 0, 1), -101);
        checks.refused(x, "gift(0, 2, 1)", () -> x.gift(0, 2, 1), -101);
        checks.refused(x, "gift(0, -1, 1)", () -> x.gift(0, -1, 1), -101);
        checks.refused(x, "gift(0, 2, -1)", () -> x.gift(0, 2, -1), -101);
        checks.refused(x, "gift(2, 0, 1000001)", () -> x.gift(2, 0, 1000001), -101);
        checks.refused(x, "gift(0, 0, -1)", () -> x.gift(0, 0, -1), -102);
        checks.refused(x, "gift(0, 0, 1000001)", () -> x.gift(0, 0, 1000001), -102);
    }

    private static void promise22Bond() {
        DearVotes x = Houses.ofGivers(3, 1);
        checks.due("bond(0, 1, 0)", x.bond(0, 1, 0), 1000);
        checks.due("bond(1, 0, 999)", x.bond(1, 0, 999), 0);
        checks.due("bond(0, 1, 1000)", x.bond(0, 1, 1000), 999);
        checks.due("bond(2, 1, 5)", x.bond(2, 1, 5), 1000);
        checks.due("bond(1, 2, 6)", x.bond(1, 2, 6), 5);
        checks.due("bond(2, 0, 7)", x.bond(2, 0, 7), 1000);
        checks.refused(x, "bond(3, 0, 1)", () -> x.bond(3, 0, 1), -101);
        checks.refused(x, "bond(0, 3, 1)", () -> x.bond(0, 3, 1), -101);
        checks.refused(x, "bond(-1, 0, 1)", () -> x.bond(-1, 0, 1), -101);
        checks.refused(x, "bond(0, -1, 1)", () -> x.bond(0, -1, 1), -101);
        checks.refused(x, "bond(3, 3, 1)", () -> x.bond(3, 3, 1), -101);
        checks.refused(x, "bond(0, 3, 1001)", () -> x.bond(0, 3, 1001), -101);
        checks.refused(x, "bond(0, 0, 1)", () -> x.bond(0, 0, 1), -102);
        checks.refused(x, "bond(0, 0, 1001)", () -> x.bond(0, 0, 1001), -102);
        checks.refused(x, "bond(0, 1, 1001)", () -> x.bond(0, 1, 1001), -102);
        checks.refused(x, "bond(0, 1, -1)", () -> x.bond(0, 1, -1), -102);
    }

    private static void matches(String when, DearVotes x, int j, long low, long high) {
        checks.due(when + ": matched(" + j + ", 0)", x.matched(j, 0), low);
        checks.due(when + ": matched(" + j + ", 1)", x.matched(j, 1), high);
    }

    private static void promise23Matched() {
        DearVotes x = Houses.ofGivers(3, 2);
        matches("no gifts", x, 0, 0, 0);
        Houses.gifts(x, 0, 9);
        matches("one gift", x, 0, 0, 0);
        Houses.gifts(x, 0, 9, 4);
        matches("roots 3 and 2", x, 0, 12, 12);
        matches("the other project", x, 1, 0, 0);
        Houses.gifts(x, 0, 9, 4, 16);
        // (3 + 2 + 4) squared, less 9 + 4 + 16.
        matches("three whole roots", x, 0, 52, 52);
        x.here(0, false);
        matches("one is ABSENT", x, 0, 52, 52);
        x.bond(1, 2, 500);
        matches("half a bond", x, 0, 44, 44);
        x.bond(0, 1, 0);
        matches("no bond", x, 0, 32, 32);
        x.bond(0, 2, 1);
        // 2 * (12 * 0.001 + 8 * 0.5) is 8.024.
        matches("a thousandth", x, 0, 8, 9);
    }

    private static void promise23Bounds() {
        DearVotes x = Houses.ofGivers(3, 1);
        // ROOT of 65536 * 2 is 362 (131044; 363 has 131769): 724000 and 726000 by 256000.
        Houses.gifts(x, 0, 1, 2);
        matches("1 and 2", x, 0, 2, 3);
        // ROOT of 65536 * 3 is 443; with a third gift of 1: 2 * (362 + 443 + 627) by 256 is 11.19.
        Houses.gifts(x, 0, 1, 2, 3);
        matches("1, 2 and 3", x, 0, 11, 12);
        Houses.gifts(x, 0, 2, 2, 0);
        matches("2 and 2 is a square", x, 0, 4, 4);
        x.bond(0, 1, 0);
        Houses.gifts(x, 0, 2, 3, 0);
        matches("HIGH without a bond", x, 0, 0, 0);
        x.bond(0, 1, 1000);
        // ROOT of 65536 * 999999 * 1000000 is 255999871 (of 255999871.99..): 1999998.99 and 1999999
        Houses.gifts(x, 0, 999999, 1000000, 0);
        matches("great ones", x, 0, 1999998, 1999999);
        Houses.gifts(x, 0, 1000000, 1000000, 1000000);
        matches("the greatest", x, 0, 6000000, 6000000);

        DearVotes four = Houses.ofGivers(4, 1);
        Houses.gifts(four, 0, 2, 1, 1, 1);
        // 3 pairs of 2 and 1 (362 to 363), 3 pairs of 1 and 1 (256): 1854 and 1857 by 128.
        matches("three roots and three squares", four, 0, 14, 15);

        DearVotes edge = Houses.ofGivers(2, 1);
        // 153 times 4183 is 639999, one less than five times 128000.
        Houses.gifts(edge, 0, 267, 1);
        edge.bond(0, 1, 153);
        matches("just below", edge, 0, 4, 6);
        // 843 times 4707 is 3968001, one more than 31 times 128000.
        Houses.gifts(edge, 0, 1, 338);
        edge.bond(0, 1, 843);
        matches("just above", edge, 0, 30, 32);

        DearVotes full = Houses.ofGivers(12, 1);
        for (int p = 0; p < 12; p++) {
            full.gift(p, 0, 1000000);
        }
        matches("all twelve", full, 0, 132000000L, 132000000L);
        full.gift(11, 0, 999999);
        // 55 times 256000000 and 11 times 255999871 (or one more), by 128.
        matches("one gives less", full, 0, 131999988L, 131999989L);
    }

    private static void promise23Refusals() {
        DearVotes x = Houses.ofGivers(2, 1);
        Houses.gifts(x, 0, 4, 9);
        checks.refused(x, "matched(1, 0)", () -> x.matched(1, 0), -101);
        checks.refused(x, "matched(-1, 1)", () -> x.matched(-1, 1), -101);
        checks.refused(x, "matched(1, 2)", () -> x.matched(1, 2), -101);
        checks.refused(x, "matched(0, 2)", () -> x.matched(0, 2), -102);
        checks.refused(x, "matched(0, -1)", () -> x.matched(0, -1), -102);
    }

    private static void shares(String when, DearVotes x, long pot, long... due) {
        for (int j = 0; j < due.length; j++) {
            checks.due(when + ": share(" + j + ", " + pot + ")", x.share(j, pot), due[j]);
        }
    }

    private static void promise24Share() {
        DearVotes x = Houses.ofGivers(2, 3);
        shares("no gifts", x, 1000, 0, 0, 0);
        Houses.gifts(x, 0, 5);
        shares("no match", x, 1000, 0, 0, 0);
        Houses.gifts(x, 0, 1, 1);
        shares("one has all", x, 1000, 1000, 0, 0);
        Houses.gifts(x, 2, 9, 9);
        // MATCHED LOW are 2, 0, 18.
        shares("one to nine", x, 1000, 100, 0, 900);
        shares("nothing", x, 0, 0, 0, 0);
        shares("one unit", x, 1, 0, 0, 1);
        shares("the half goes to the first", x, 5, 1, 0, 4);
        shares("the greatest", x, 1000000000L, 100000000L, 0, 900000000L);
        shares("a rest of 9 of 10", x, 999999999L, 100000000L, 0, 899999999L);
        x.here(0, false);
        shares("gifts of those ABSENT count", x, 10, 1, 0, 9);
        x.bond(0, 1, 0);
        shares("no bond, no match", x, 1000, 0, 0, 0);
        x.bond(0, 1, 56);
        // MATCHED LOW are 0, 0, 1 (of 1.008).
        shares("the least match", x, 1000, 0, 0, 1000);
    }

    private static void promise24Rests() {
        DearVotes x = Houses.ofGivers(2, 6);
        for (int j = 0; j < 6; j++) {
            Houses.gifts(x, j, 4, 4);
        }
        shares("like rests", x, 4, 1, 1, 1, 1, 0, 0);
        shares("like rests of more", x, 11, 2, 2, 2, 2, 2, 1);
        shares("no rests", x, 12, 2, 2, 2, 2, 2, 2);
        // MATCHED LOW are 2, 4, 6, 8, 10, 12 of 42.
        for (int j = 0; j < 6; j++) {
            Houses.gifts(x, j, j + 1, j + 1);
        }
        // Of 10: 20 40 60 80 100 120 by 42: 0 0 1 1 2 2, rests 20 40 18 38 16 36: 4 lack.
        shares("the greatest rests", x, 10, 1, 1, 1, 2, 2, 3);
        // Of 2: 4 8 12 16 20 24 by 42: nothing, and the greatest rests are the last.
        shares("two units", x, 2, 0, 0, 0, 0, 1, 1);
        shares("one round of 21", x, 21, 1, 2, 3, 4, 5, 6);
    }

    private static void promise24Refusals() {
        DearVotes x = Houses.ofGivers(2, 1);
        Houses.gifts(x, 0, 4, 9);
        checks.refused(x, "share(1, 5)", () -> x.share(1, 5), -101);
        checks.refused(x, "share(-1, 5)", () -> x.share(-1, 5), -101);
        checks.refused(x, "share(1, -1)", () -> x.share(1, -1), -101);
        checks.refused(x, "share(0, -1)", () -> x.share(0, -1), -102);
        checks.refused(x, "share(0, 1000000001)", () -> x.share(0, 1000000001L), -102);
        checks.refused(x, "share(0, 2^32)", () -> x.share(0, 1L << 32), -102);
        checks.refused(x, "share(0, MIN)", () -> x.share(0, Long.MIN_VALUE), -102);
        checks.refused(x, "share(0, 9)", () -> x.share(0, 9), 9);

        DearVotes none = Houses.ofGivers(2, 1);
        checks.due("nobody gets anything: OUTSIDE", none.share(0, -1), -102);
    }

    private static void promise25Damped() {
        DearVotes x = Houses.ofGivers(3, 2);
        checks.due("no gifts", x.damped(0), 0);
        Houses.gifts(x, 0, 9, 4, 16);
        checks.due("whole bonds", x.damped(0), 0);
        x.bond(1, 2, 500);
        checks.due("half a bond", x.damped(0), 8);
        x.bond(0, 1, 0);
        checks.due("no bond", x.damped(0), 20);
        x.bond(0, 2, 1);
        // 52 less 8.024, that is 8.
        checks.due("MATCHED LOW is rounded", x.damped(0), 44);
        checks.due("the other project", x.damped(1), 0);
        Houses.gifts(x, 1, 1, 2);
        // 2.8 is 2; without a bond it is 0.
        checks.due("both are rounded", x.damped(1), 2);
        x.here(0, false);
        checks.due("those ABSENT count", x.damped(1), 2);
        checks.refused(x, "damped(2)", () -> x.damped(2), -101);
        checks.refused(x, "damped(-1)", () -> x.damped(-1), -101);
    }
}
