import java.lang.reflect.Constructor;
import java.lang.reflect.Field;
import java.lang.reflect.Method;
import java.lang.reflect.Modifier;
import java.util.Arrays;
import java.util.Set;
import java.util.TreeSet;

/** The public face: its constants, its constructor, its methods, and nothing else. */
public final class FaceTest {
    private static final Checks checks = new Checks();

    private static final Set<String> METHODS = new TreeSet<>(Arrays.asList(
        "int person(int)", "int question()", "int project()", "int seed(int)",
        "int vote(int,int,int)", "int worth(int,int,int)", "int here(int,boolean)",
        "int voices(int,int)", "int cost(int)", "int total(int)", "int result(int)",
        "int gain(int)", "int swings(int)", "int best(int)", "int answer(int,int)",
        "int take(int)", "int play(int)", "int ended()", "int ring()",
        "int gift(int,int,int)", "int bond(int,int,int)", "long matched(int,int)",
        "long share(int,long)", "long damped(int)", "int likeness(int,int)",
        "int group(int,int)", "int count(int)", "long digest()"));

    public static void main(String[] args) {
        constants();
        methods();
        nothingElse();
        checks.end();
    }

    private static void constants() {
        checks.due("NONE", DearVotes.NONE, -1);
        checks.due("UNKNOWN", DearVotes.UNKNOWN, -101);
        checks.due("OUTSIDE", DearVotes.OUTSIDE, -102);
        checks.due("STATE", DearVotes.STATE, -103);
        checks.due("FULL", DearVotes.FULL, -104);
    }

    private static void methods() {
        Set<String> found = new TreeSet<>();
        for (Method method : DearVotes.class.getDeclaredMethods()) {
            if (!Modifier.isPrivate(method.getModifiers())) {
                StringBuilder text = new StringBuilder();
                text.append(method.getReturnType()).append(' ').append(method.getName());
                for (Class<?> type : method.getParameterTypes()) {
                    text.append(text.indexOf("(") < 0 ? '(' : ',').append(type);
                }
                text.append(text.indexOf("(") < 0 ? "()" : ")");
                checks.holds(text + " is public", Modifier.isPublic(method.getModifiers()));
                checks.holds(text + " is of objects", !Modifier.isStatic(method.getModifiers()));
                found.add(text.toString());
            }
        }
        checks.holds("the methods are those of the document: " + found, found.equals(METHODS));
    }

    private static void nothingElse() {
        checks.holds("final", Modifier.isFinal(DearVotes.class.getModifiers()));
        Constructor<?>[] constructors = DearVotes.class.getDeclaredConstructors();
        checks.due("constructors", constructors.length, 1);
        checks.due("its parameters", constructors[0].getParameterCount(), 0);
        int open = 0;
        for (Field field : DearVotes.class.getDeclaredFields()) {
            open += Modifier.isPrivate(field.getModifiers()) ? 0 : 1;
        }
        checks.due("fields that are not private", open, 5);
        for (Class<?> inside : DearVotes.class.getDeclaredClasses()) {
            checks.holds(inside + " is static", Modifier.isStatic(inside.getModifiers()));
            checks.holds(inside + " is not public", !Modifier.isPublic(inside.getModifiers()));
            for (Method method : inside.getDeclaredMethods()) {
                String name = " " + method.getName() + "(";
                boolean apart = METHODS.stream().noneMatch(m -> m.contains(name));
                checks.holds(method + " bears a name of its own", apart);
            }
        }
    }
}
