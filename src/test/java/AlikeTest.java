/** Promises 26 and 27: likeness, and who hangs together by it. */
public final class AlikeTest {
    private static final Checks checks = new Checks();

    public static void main(String[] args) {
        promise26Likeness();
        promise26Refusals();
        promise27Group();
        promise27GroupOfTwelve();
        promise27Refusals();
        checks.end();
    }

    private static void promise26Likeness() {
        DearVotes x = Houses.of(2, 100, 100, 2000, 100);
        Houses.votes(x, 0, 3, 4);
        Houses.votes(x, 1, 4, 3);
        // 24 * 24 * 1000 by 25 * 25 is 921.6.
        checks.due("rounded down", x.likeness(0, 1), 921);
        checks.due("either way", x.likeness(1, 0), 921);
        Houses.votes(x, 1, -4, -3);
        checks.due("as much below 0", x.likeness(0, 1), -921);
        Houses.votes(x, 1, 4, -3);
        checks.due("the sum is 0", x.likeness(0, 1), 0);
        Houses.votes(x, 2, 30, 33);
        // 30 * 3 + 33 * 4 = 222; 49284000 by 25 * 1989 is 991.1.
        checks.due("great ones", x.likeness(2, 0), 991);
        checks.due("with itself", x.likeness(2, 2), 1000);
        checks.due("NONE: a COST is 0", x.likeness(0, 3), -2000);
        checks.due("NONE: the other COST is 0", x.likeness(3, 0), -2000);
        checks.due("NONE: with itself", x.likeness(3, 3), -2000);
        x.here(0, false);
        checks.due("one is ABSENT", x.likeness(2, 0), 991);
        Houses.votes(x, 1, 0, -5);
        Houses.votes(x, 3, 1, 1);
        Houses.votes(x, 1, 1, 0);
        checks.due("half", x.likeness(1, 3), 500);
        Houses.votes(x, 1, -1, 0);
        checks.due("half below 0", x.likeness(1, 3), -500);

        DearVotes six = Houses.of(6, 2000, 2000);
        Houses.votes(six, 0, 40, 20);
        Houses.votes(six, 1, 40, 20);
        checks.due("the greatest", six.likeness(0, 1), 1000);
        Houses.votes(six, 1, -40, -20);
        checks.due("the least", six.likeness(0, 1), -1000);
        Houses.votes(six, 1, 0, 0, 1);
        checks.due("nothing in common", six.likeness(0, 1), 0);
        Houses.votes(six, 1, -1);
        // -40, 1600 * 1000 by 2000 * 2 is 400.
        checks.due("all six questions count in the COST", six.likeness(0, 1), -400);
    }

    private static void promise26Refusals() {
        DearVotes x = Houses.of(1, 9, 9);
        Houses.votes(x, 0, 2);
        checks.refused(x, "likeness(0, 2)", () -> x.likeness(0, 2), -2001);
        checks.refused(x, "likeness(2, 0)", () -> x.likeness(2, 0), -2001);
        checks.refused(x, "likeness(-1, 0)", () -> x.likeness(-1, 0), -2001);
        checks.refused(x, "likeness(0, -1)", () -> x.likeness(0, -1), -2001);
        checks.refused(x, "likeness(1, 2)", () -> x.likeness(1, 2), -2001);
        checks.refused(x, "likeness(0, 1)", () -> x.likeness(0, 1), -2000);
    }

    private static void promise27Group() {
        DearVotes x = Houses.of(2, 100, 100, 100, 100, 100);
        Houses.votes(x, 0, 5, 0);
        Houses.votes(x, 1, 0, 5);
        Houses.votes(x, 2, 5, 5);
        Houses.votes(x, 3, -5, -5);
        // 2 is like 0 and 1 by 500; 3 is unlike them all, 4 is NONE to all.
        checks.due("one after the other", x.group(0, 500), 7);
        checks.due("from the other end", x.group(1, 500), 7);
        checks.due("from the middle", x.group(2, 500), 7);
        checks.due("one more is too much", x.group(0, 501), 1);
        checks.due("one more is too much for the middle", x.group(2, 501), 4);
        checks.due("the unlike is alone", x.group(3, 1), 8);
        checks.due("NONE is alone, with itself", x.group(4, 1), 16);
        x.here(2, false);
        checks.due("those ABSENT hang on, too", x.group(0, 500), 7);
        Houses.votes(x, 4, -1, -1);
        checks.due("LIKENESS of 1000", x.group(4, 1000), 24);
        Houses.votes(x, 0, -5);
        checks.due("0 is no LIKENESS", x.group(0, 1), 25);
        checks.due("below 0 is none", x.group(2, 1), 6);
    }

    /** A chain in which each is like its neighbours alone, numbered so that it runs to and fro. */
    private static void promise27GroupOfTwelve() {
        DearVotes x = Houses.of(6, new int[] {50, 50, 50, 50, 50, 50, 50, 50, 50, 50, 50, 50});
        int[] order = {11, 0, 10, 1, 9, 2, 8, 3, 7, 4, 6};
        for (int i = 0; i < order.length; i++) {
            x.vote(order[i], i / 2, 1);
            x.vote(order[i], (i + 1) / 2, 1);
        }
        // Each has one question, or that and the next one: likeness 500 of neighbours.
        checks.due("from one end", x.group(11, 500), 0xFDF);
        checks.due("from the other end", x.group(6, 500), 0xFDF);
        checks.due("from within", x.group(2, 500), 0xFDF);
        checks.due("at 501", x.group(2, 501), 4);
        checks.due("the twelfth", x.group(5, 1), 32);
    }

    private static void promise27Refusals() {
        DearVotes x = Houses.of(1, 9, 9);
        Houses.votes(x, 0, 2);
        Houses.votes(x, 1, 1);
        checks.due("group(0, 1)", x.group(0, 1), 3);
        checks.refused(x, "group(2, 1)", () -> x.group(2, 1), -101);
        checks.refused(x, "group(-1, 1)", () -> x.group(-1, 1), -101);
        checks.refused(x, "group(2, 0)", () -> x.group(2, 0), -101);
        checks.refused(x, "group(0, 0)", () -> x.group(0, 0), -102);
        checks.refused(x, "group(0, 1001)", () -> x.group(0, 1001), -102);
        checks.refused(x, "group(0, -5)", () -> x.group(0, -5), -102);
        checks.refused(x, "group(0, 1000)", () -> x.group(0, 1000), 3);
    }
}
