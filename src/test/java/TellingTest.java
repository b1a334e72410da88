/** Promises 28 and 29: what is counted, and the digest. */
public final class TellingTest {
    private static final Checks checks = new Checks();

    public static void main(String[] args) {
        promise28Count();
        promise28Refusals();
        promise29Digest();
        promise29DigestOfEach();
        checks.end();
    }

    private static void counts(String when, DearVotes x, int... due) {
        for (int what = 0; what < due.length; what++) {
            checks.due(when + ": count(" + what + ")", x.count(what), due[what]);
        }
    }

    private static void promise28Count() {
        DearVotes x = Houses.of(2, 5, 1, 9);
        counts("people and questions", x, 3, 2, 0, 3, 0, 0);
        x.project();
        counts("a project", x, 3, 2, 1, 3, 0, 0);
        x.here(2, false);
        counts("one is ABSENT", x, 3, 2, 1, 2, 0, 0);
        Houses.worths(x, 0, 3, 3);
        Houses.worths(x, 1, -3, -2);
        x.play(30);
        // Both change in each of four rounds, till the ring closes.
        counts("a PLAY", x, 3, 2, 1, 2, 4, 8);
        x.play(1);
        counts("another PLAY", x, 3, 2, 1, 2, 5, 10);
        x.play(31);
        x.take(0);
        x.vote(0, 0, 0);
        counts("no PLAY", x, 3, 2, 1, 2, 5, 10);
        x.here(2, true);
        counts("it is HERE again", x, 3, 2, 1, 3, 5, 10);
    }

    private static void promise28Refusals() {
        DearVotes x = Houses.of(2, 5, 1, 9);
        checks.refused(x, "count(6)", () -> x.count(6), -102);
        checks.refused(x, "count(-1)", () -> x.count(-1), -102);
        checks.refused(x, "count(MAX)", () -> x.count(Integer.MAX_VALUE), -102);
        checks.refused(x, "count(MIN)", () -> x.count(Integer.MIN_VALUE), -102);
    }

    private static long digestOf(long... numbers) {
        long h = 103;
        for (long number : numbers) {
            h = 31 * h + number;
        }
        return h;
    }

    private static void promise29Digest() {
        DearVotes x = new DearVotes();
        checks.due("of nothing", x.digest(), digestOf(0, 0, 0));
        x.seed(-5);
        checks.due("of a SEED", x.digest(), digestOf(-5, 0, 0));
        x.person(30);
        checks.due("of a person", x.digest(), digestOf(30, 1, -5, 0, 0));
        x.question();
        x.question();
        checks.due("of questions", x.digest(), digestOf(30, 1, 0, 0, 0, 0, -5, 0, 0));
        x.project();
        checks.due("of a project", x.digest(), digestOf(30, 1, 0, 0, 0, 0, 0, -5, 0, 0));
        x.vote(0, 0, 2);
        x.vote(0, 1, -3);
        x.worth(0, 0, 400);
        x.worth(0, 1, -500);
        x.gift(0, 0, 77);
        checks.due("of voices, then worths", x.digest(),
            digestOf(30, 1, 2, -3, 400, -500, 77, -5, 0, 0));
        x.person(8);
        x.here(0, false);
        x.project();
        x.gift(1, 0, 6);
        x.gift(1, 1, 7);
        x.worth(1, 0, 9);
        checks.due("of two people", x.digest(), digestOf(
            30, 0, 2, -3, 400, -500, 77, 0,
            8, 1, 0, 0, 9, 0, 6, 7, 1000, -5, 0, 0));
        x.person(0);
        x.bond(0, 2, 1);
        x.bond(1, 2, 2);
        x.bond(1, 0, 3);
        x.play(3);
        checks.due("of three people and a PLAY", x.digest(), digestOf(
            30, 0, 2, -3, 400, -500, 77, 0,
            8, 1, 1, 0, 9, 0, 6, 7, 3,
            0, 1, 0, 0, 0, 0, 0, 0, 1, 2, -5, 2, 1));
        checks.due("the digest changes nothing", x.digest(), x.digest());
    }

    /** Any one number that is another one makes another digest. */
    private static void promise29DigestOfEach() {
        DearVotes x = new DearVotes();
        for (int p = 0; p < 12; p++) {
            x.person(2000);
        }
        for (int i = 0; i < 6; i++) {
            x.question();
            x.project();
        }
        long before = x.digest();
        x.vote(11, 5, 1);
        long voted = x.digest();
        x.vote(11, 5, 0);
        x.worth(11, 5, 1);
        long valued = x.digest();
        x.worth(11, 5, 0);
        x.gift(11, 5, 1);
        long given = x.digest();
        x.gift(11, 5, 0);
        x.bond(10, 11, 999);
        long bound = x.digest();
        x.bond(11, 10, 1000);
        checks.due("back as it was", x.digest(), before);
        long power = 31L * 31 * 31;
        checks.due("a bond", bound - before, -power);
        for (int i = 0; i < 11; i++) {
            power *= 31;
        }
        checks.due("a gift", given - before, power);
        for (int i = 0; i < 6; i++) {
            power *= 31;
        }
        checks.due("a worth", valued - before, power);
        for (int i = 0; i < 6; i++) {
            power *= 31;
        }
        checks.due("a voice", voted - before, power);
    }
}
