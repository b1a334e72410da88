/** Promises 1 to 5: a new object, people, questions, projects, the seed. */
public final class PeopleTest {
    private static final Checks checks = new Checks();

    public static void main(String[] args) {
        promise1New();
        promise2Person();
        promise3Question();
        promise4Project();
        promise5Seed();
        checks.end();
    }

    private static void promise1New() {
        DearVotes x = new DearVotes();
        for (int what = 0; what <= 5; what++) {
            checks.due("new: count(" + what + ")", x.count(what), 0);
        }
        checks.due("new: ended()", x.ended(), 0);
        checks.due("new: ring()", x.ring(), 0);
        checks.due("new: digest()", x.digest(), 103L * 31 * 31 * 31);
        checks.due("new: cost(0)", x.cost(0), -101);
        checks.due("new: total(0)", x.total(0), -2000);
        checks.due("new: matched(0, 0)", x.matched(0, 0), -101);
        checks.due("new: seed(5)", x.seed(5), 0);

        DearVotes other = new DearVotes();
        checks.due("objects are apart: seed(0)", other.seed(0), 0);
        x.person(3);
        checks.due("objects are apart: count(0)", other.count(0), 0);
    }

    private static void promise2Person() {
        DearVotes x = new DearVotes();
        checks.refused(x, "person(-1)", () -> x.person(-1), -102);
        checks.refused(x, "person(2001)", () -> x.person(2001), -102);
        checks.refused(x, "person(MIN)", () -> x.person(Integer.MIN_VALUE), -102);
        checks.refused(x, "person(MAX)", () -> x.person(Integer.MAX_VALUE), -102);
        checks.due("person(0)", x.person(0), 0);
        checks.due("person(2000)", x.person(2000), 1);
        for (int p = 2; p < 12; p++) {
            checks.due("person(" + p + ")", x.person(p), p);
        }
        checks.refused(x, "person(5), the 13th", () -> x.person(5), -104);
        checks.refused(x, "person(2001), the 13th", () -> x.person(2001), -102);
        checks.refused(x, "person(-1), the 13th", () -> x.person(-1), -102);
        checks.due("count(0)", x.count(0), 12);
        checks.due("all are HERE at first", x.count(3), 12);

        DearVotes late = Houses.of(2, 7);
        late.vote(0, 1, 2);
        checks.due("person(9) behind the questions", late.person(9), 1);
        checks.due("its VOICES are 0", late.voices(1, 1), 0);
        checks.due("its WORTH is 0", late.worth(1, 1, 3), 0);
        checks.due("it is HERE", late.here(1, true), 1);
        checks.due("its BOND is 1000", late.bond(0, 1, 1000), 1000);
        checks.due("its BUDGET", late.vote(1, 0, 3), 9);
        checks.due("above its BUDGET", late.vote(1, 1, 1), -103);
    }

    private static void promise3Question() {
        DearVotes x = Houses.of(0, 10);
        for (int q = 0; q < 6; q++) {
            checks.due("question()", x.question(), q);
            checks.due("total of it", x.total(q), 0);
            checks.due("voices for it", x.voices(0, q), 0);
        }
        checks.refused(x, "question(), the 7th", x::question, -104);
        checks.due("count(1)", x.count(1), 6);
        checks.due("total(6)", x.total(6), -2000);
    }

    private static void promise4Project() {
        DearVotes x = Houses.of(0, 10, 10);
        for (int j = 0; j < 6; j++) {
            checks.due("project()", x.project(), j);
            checks.due("gift to it", x.gift(0, j, 0), 0);
            checks.due("matched of it", x.matched(j, 0), 0);
        }
        checks.refused(x, "project(), the 7th", x::project, -104);
        checks.due("count(2)", x.count(2), 6);
        checks.due("matched(6, 0)", x.matched(6, 0), -101);
    }

    private static void promise5Seed() {
        DearVotes x = new DearVotes();
        checks.due("seed(-7)", x.seed(-7), 0);
        checks.due("seed(MAX)", x.seed(Integer.MAX_VALUE), -7);
        checks.due("seed(MIN)", x.seed(Integer.MIN_VALUE), Integer.MAX_VALUE);
        checks.due("seed(0)", x.seed(0), Integer.MIN_VALUE);
        checks.due("seed(0)", x.seed(0), 0);
    }
}
