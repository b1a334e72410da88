import java.util.function.LongSupplier;

/** Counts the answers that are not as due, and ends a test with exit code 1 if there are any. */
final class Checks {
    private int made;
    private int wrong;
    private String place = "";

    /** What is checked from here on is told with this ahead of it. */
    void at(String place) {
        this.place = place;
    }

    void due(String call, long got, long want) {
        made++;
        if (got != want) {
            wrong++;
            System.out.println(place + call + " answered " + got + ", due is " + want);
        }
    }

    void holds(String what, boolean is) {
        due(what + " (1: it holds)", is ? 1 : 0, 1);
    }

    /** The call is refused with this answer, and changes nothing. */
    void refused(DearVotes x, String call, LongSupplier made, long want) {
        String before = allOf(x);
        due(call, made.getAsLong(), want);
        String after = allOf(x);
        holds(call + " changes nothing: " + before + " / " + after, before.equals(after));
    }

    /** All that may be changed, as one text, in few calls: an object has 512 of them. */
    private static String allOf(DearVotes x) {
        StringBuilder text = new StringBuilder();
        text.append(x.digest());
        for (int what = 0; what <= 2; what++) {
            text.append(' ').append(x.count(what));
        }
        text.append(' ').append(x.ended()).append(' ').append(x.ring());
        return text.toString();
    }

    void end() {
        System.out.println(made + " answers, " + wrong + " not as due");
        if (wrong != 0) {
            System.exit(1);
        }
    }
}
