import java.io.ByteArrayOutputStream;
import java.io.IOException;
import java.io.PrintStream;
import java.lang.reflect.Method;
import java.net.URL;
import java.net.URLClassLoader;
import java.nio.file.Files;
import java.nio.file.Path;
import java.util.ArrayList;
import java.util.LinkedHashMap;
import java.util.List;
import java.util.Map;
import java.util.regex.Matcher;
import java.util.regex.Pattern;
import javax.tools.ToolProvider;

/** README.md: its program does what it says there, its table tells the document's calls. */
public final class ReadmeTest {
    private static final Checks checks = new Checks();

    /** Groups: the call's head, what is said of it. */
    private static final Pattern PROMISE = Pattern.compile("^`((?:int|long) \\w+\\(.*\\))`: (.*)$");
    /** Groups: the call's head, what it answers, what it refuses. */
    private static final Pattern ROW = Pattern.compile("^\\| `(.*)` \\| (.*) \\| (.*)\\|$");
    /** With the number that tells it, where it is not the one of all calls. */
    private static final Pattern REFUSAL =
        Pattern.compile("(UNKNOWN|OUTSIDE|STATE|FULL|NONE)(: -\\d+)?");

    public static void main(String[] args) throws Exception {
        String readme = Files.readString(Path.of("README.md"));
        program(readme);
        table(readme);
        numbers(readme);
        checks.end();
    }

    private static void program(String readme) throws Exception {
        int begin = readme.indexOf("```java\n") + "```java\n".length();
        String text = readme.substring(begin, readme.indexOf("```\n", begin));
        List<String> said = new ArrayList<>();
        Matcher matcher = Pattern.compile("// prints ([^:\\s]+)").matcher(text);
        while (matcher.find()) {
            said.add(matcher.group(1));
        }
        checks.due("lines that print", said.size(), text.split("println").length - 1);
        checks.holds("some lines print", said.size() >= 5);
        List<String> printed = printedBy(text);
        checks.holds("it prints " + printed + ", README.md says " + said, printed.equals(said));
    }

    /** Compiles and runs the program as README.md tells it, but by calls instead of commands. */
    private static List<String> printedBy(String text) throws Exception {
        Path out = Files.createTempDirectory("readme");
        Path file = out.resolve("Village.java");
        Files.writeString(file, text);
        int failed = ToolProvider.getSystemJavaCompiler().run(null, null, null, "-encoding", "UTF-8",
            "-d", out.toString(), "src/main/java/DearVotes.java", file.toString());
        checks.due("faults of its compilation", failed, 0);
        ByteArrayOutputStream bytes = new ByteArrayOutputStream();
        PrintStream before = System.out;
        try (URLClassLoader loader = new URLClassLoader(new URL[] {out.toUri().toURL()}, null)) {
            Method main = loader.loadClass("Village").getMethod("main", String[].class);
            System.setOut(new PrintStream(bytes, true));
            main.invoke(null, (Object) new String[0]);
        } finally {
            System.setOut(before);
            remove(out);
        }
        return List.of(bytes.toString().split("\\R"));
    }

    private static void remove(Path directory) throws IOException {
        try (var files = Files.list(directory)) {
            for (Path file : files.toList()) {
                Files.delete(file);
            }
        }
        Files.delete(directory);
    }

    private static void table(String readme) throws IOException {
        Map<String, String> promised = new LinkedHashMap<>();
        for (String line : Files.readAllLines(Path.of("../shared/DOC.md"))) {
            Matcher matcher = PROMISE.matcher(line);
            if (matcher.find()) {
                promised.put(matcher.group(1), refusalsIn(numbersBehind(matcher.group(2))));
            }
        }
        Map<String, String> told = new LinkedHashMap<>();
        for (String line : readme.split("\n")) {
            Matcher matcher = ROW.matcher(line);
            if (matcher.find()) {
                told.put(matcher.group(1), refusalsIn(matcher.group(2) + matcher.group(3)));
            }
        }
        checks.due("calls of the document", promised.size(), 28);
        checks.holds("calls in order: " + told.keySet(),
            List.copyOf(told.keySet()).equals(List.copyOf(promised.keySet())));
        for (Map.Entry<String, String> each : promised.entrySet()) {
            String of = told.get(each.getKey());
            checks.holds(each.getKey() + " refuses " + of + ", the document says "
                + each.getValue(), each.getValue().equals(of));
        }
    }

    /** The document tells "-2000: UNKNOWN" and "UNKNOWN as -2001": both as "UNKNOWN: -2001". */
    private static String numbersBehind(String text) {
        return text.replaceAll("(-\\d+): (UNKNOWN)", "$2: $1")
            .replaceAll("(UNKNOWN|NONE)( is told)? as (-\\d+)", "$1: $3");
    }

    /** The refusals, in their order. */
    private static String refusalsIn(String text) {
        List<String> found = new ArrayList<>();
        Matcher matcher = REFUSAL.matcher(text);
        while (matcher.find()) {
            found.add(matcher.group());
        }
        return found.toString();
    }

    private static void numbers(String readme) {
        checks.holds("UNKNOWN", readme.contains("- UNKNOWN (" + DearVotes.UNKNOWN + ")"));
        checks.holds("OUTSIDE", readme.contains("- OUTSIDE (" + DearVotes.OUTSIDE + ")"));
        checks.holds("STATE", readme.contains("- STATE (" + DearVotes.STATE + ")"));
        checks.holds("FULL", readme.contains("- FULL (" + DearVotes.FULL + ")"));
    }
}
