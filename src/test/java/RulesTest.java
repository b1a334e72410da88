import java.io.IOException;
import java.nio.file.Files;
import java.nio.file.Path;
import java.util.regex.Matcher;
import java.util.regex.Pattern;

/** The rules of ../shared/LANGUAGE.md that can be seen from the program's text alone. */
public final class RulesTest {
    private static final Checks checks = new Checks();

    private static final String[] RULED_OUT = {
        "throw", "throws", "try", "catch", "finally", "synchronized", "assert", "import", "package",
        "protected", "instanceof", "native", "volatile", "transient", "strictfp", "var",
        "double", "float", "Object", "Class", "Thread", "Random", "Runtime", "Exception",
        "equals", "hashCode", "toString", "HashMap", "Optional", "Scanner"};

    public static void main(String[] args) throws IOException {
        String text = Files.readString(Path.of("src/main/java/DearVotes.java"));
        String code = withoutComments(text);
        words(code);
        signs(text, code);
        library(code);
        methods(code);
        objects(code);
        checks.end();
    }

    private static String withoutComments(String text) {
        return text.replaceAll("(?s)/\\*.*?\\*/", " ").replaceAll("//[^\n]*", " ");
    }

    private static int times(String regex, String code) {
        Matcher matcher = Pattern.compile(regex).matcher(code);
        int found = 0;
        while (matcher.find()) {
            found++;
        }
        return found;
    }

    private static void words(String code) {
        for (String word : RULED_OUT) {
            checks.due("'" + word + "'", times("\\b" + word + "\\b", code), 0);
        }
        checks.due("public classes", times("\\bpublic (final )?class\\b", code), 1);
        checks.due("names that end in Exact", times("\\w+Exact\\b", code), 0);
        checks.holds("at most twelve classes", times("\\bclass\\b", code) <= 12);
    }

    private static void signs(String text, String code) {
        checks.due("lambdas", times("->", code), 0);
        checks.due("method references", times("::", code), 0);
        checks.due("initialiser blocks", times("static\\s*\\{", code), 0);
        checks.due("static fields that are not final",
            times("static (?!final)[\\w\\[\\]]+ \\w+( =|;)", code), 0);
        checks.due("signs beyond 127", text.chars().filter(c -> c > 127).count(), 0);
    }

    private static void library(String code) {
        Matcher matcher = Pattern.compile("\\b([A-Z]\\w*[a-z]\\w*)\\.(\\w+)").matcher(code);
        while (matcher.find()) {
            String call = matcher.group();
            boolean known = call.equals("System.arraycopy") || call.equals("House.gainBy");
            checks.holds(call + " is known as allowed", known);
        }
    }

    private static void methods(String code) {
        Pattern head = Pattern.compile("(?m)^( {4}| {8})([\\w\\[\\]]+ )*\\w+\\(([^)]*)\\) \\{$");
        Matcher matcher = head.matcher(code);
        int found = 0;
        while (matcher.find()) {
            found++;
            int end = code.indexOf("\n" + matcher.group(1) + "}\n", matcher.start());
            long lines = code.substring(matcher.start(), end).lines().count();
            checks.holds(matcher.group().trim() + " has 60 lines at most", lines <= 60);
            long parameters = matcher.group(3).chars().filter(c -> c == ',').count() + 1;
            checks.holds(matcher.group().trim() + " has 7 parameters at most", parameters <= 7);
        }
        checks.holds("all methods are seen: " + found, found >= 50);
    }

    /** All runs share one room: the fields and the constructor make the objects, and no call does. */
    private static void objects(String code) {
        int found = 0;
        for (String line : code.split("\n")) {
            if (line.matches(".*\\bnew\\b.*")) {
                found++;
                boolean isField = line.matches(" +final \\S+ \\w+ = new .*");
                boolean isConstructor = line.matches(" {8}\\w+ = new (House|Search|Rounds|Fund)\\(.*");
                checks.holds("not in a call: " + line.trim(), isField || isConstructor);
            }
        }
        checks.holds("all objects are seen: " + found, found >= 10);
    }
}
