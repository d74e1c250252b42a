import java.io.IOException;
import java.lang.reflect.Field;
import java.lang.reflect.Method;
import java.lang.reflect.Modifier;
import java.nio.file.Files;
import java.nio.file.Path;
import java.util.ArrayList;
import java.util.Arrays;
import java.util.List;
import java.util.Set;
import java.util.TreeSet;
import java.util.regex.Matcher;
import java.util.regex.Pattern;

/**
 * The class's face is the document's and nothing more, and its text keeps to
 * the rules of the language that can be seen there. Runs in the project's root.
 */
public final class FaceTest {
    private static final String SOURCE = "src/main/java/KeyTreeGroup.java";
    private static final Set<String> METHODS = new TreeSet<>(Set.of(
            "int found(int)", "int publish(int)", "int add(int)", "int remove(int)", "int update(int)",
            "int commit(int)", "int process(int)", "int leak(int)", "int state(int)", "int epoch(int)",
            "int leaf(int)", "int key(int,int)", "int unmerged(int,int)", "int resolution(int,int,int)",
            "int sent(int)", "boolean holds(int,int)", "boolean keyHeard(int)", "boolean secretHeard(int)",
            "int count(int)"));
    private static final Set<String> CONSTANTS = new TreeSet<>(Set.of(
            "OK = 0", "REFUSED = -1", "FULL = -2", "STALE = -3", "STRANGER = 0", "READY = 1", "MEMBER = 2", "OUT = 3"));
    private static final String FORBIDDEN =
            "\\b(throw|throws|try|catch|synchronized|assert|import|package|System|Object|var|equals|hashCode|toString)\\b|->|::";

    private static int wrong = 0;

    public static void main(String[] args) throws Exception {
        is("the class is public and final",
                Modifier.isPublic(KeyTreeGroup.class.getModifiers()) && Modifier.isFinal(KeyTreeGroup.class.getModifiers()));
        is("one constructor, public and without arguments",
                KeyTreeGroup.class.getDeclaredConstructors().length == 1
                && Modifier.isPublic(KeyTreeGroup.class.getDeclaredConstructor().getModifiers()));
        is("the methods " + methods(), methods().equals(METHODS));
        is("the constants " + constants(), constants().equals(CONSTANTS));
        privateNames();
        nestedClasses();
        sizes();
        text();
        System.out.println("FaceTest: " + wrong + " not as due");
        if (wrong != 0) {
            System.exit(1);
        }
    }

    private static void is(String what, boolean so) {
        if (!so) {
            wrong++;
            System.out.println("not so: " + what);
        }
    }

    private static Set<String> methods() {
        Set<String> seen = new TreeSet<>();
        for (Method m : KeyTreeGroup.class.getDeclaredMethods()) {
            if (!Modifier.isPrivate(m.getModifiers())) {
                String arguments = String.join(",", Arrays.stream(m.getParameterTypes()).map(Class::getName).toList());
                String rest = Modifier.toString(m.getModifiers()).equals("public") ? "" : "not only public: ";
                seen.add(rest + m.getReturnType().getName() + " " + m.getName() + "(" + arguments + ")");
            }
        }
        return seen;
    }

    private static Set<String> constants() throws IllegalAccessException {
        Set<String> seen = new TreeSet<>();
        for (Field f : KeyTreeGroup.class.getDeclaredFields()) {
            if (!Modifier.isPrivate(f.getModifiers())) {
                String how = Modifier.toString(f.getModifiers()) + " " + f.getType();
                String rest = how.equals("public static final int") ? "" : how + " ";
                seen.add(rest + f.getName() + (rest.isEmpty() ? " = " + f.getInt(null) : ""));
            }
        }
        return seen;
    }

    private static void privateNames() {
        Set<String> open = new TreeSet<>();
        METHODS.forEach(m -> open.add(m.replaceAll("^\\w+ |\\(.*", "")));
        for (Method m : KeyTreeGroup.class.getDeclaredMethods()) {
            is("private " + m.getName() + " bears no public name",
                    !Modifier.isPrivate(m.getModifiers()) || !open.contains(m.getName()));
        }
    }

    private static void nestedClasses() {
        for (Class<?> c : KeyTreeGroup.class.getDeclaredClasses()) {
            is(c.getName() + " is static and not open",
                    Modifier.isStatic(c.getModifiers())
                    && !Modifier.isPublic(c.getModifiers()) && !Modifier.isProtected(c.getModifiers()));
            for (Field f : c.getDeclaredFields()) {
                is(f + " is no static state", !Modifier.isStatic(f.getModifiers()) || Modifier.isFinal(f.getModifiers()));
            }
        }
        for (Field f : KeyTreeGroup.class.getDeclaredFields()) {
            is(f + " is no static state", !Modifier.isStatic(f.getModifiers()) || Modifier.isFinal(f.getModifiers()));
        }
    }

    /** Rule 11 of the language. */
    private static void sizes() throws IOException {
        List<Class<?>> all = new ArrayList<>(List.of(KeyTreeGroup.class.getDeclaredClasses()));
        all.add(KeyTreeGroup.class);
        is("at most twelve classes", all.size() <= 12);
        for (Class<?> c : all) {
            long fields = Arrays.stream(c.getDeclaredFields()).filter(f -> !Modifier.isStatic(f.getModifiers())).count();
            is(c.getName() + " has at most twenty fields", fields <= 20);
            for (Method m : c.getDeclaredMethods()) {
                is(m + " takes at most seven parameters", m.getParameterCount() <= 7);
            }
        }
        Matcher method = Pattern.compile("(?ms)^( +)[^\n]*\\) \\{\n.*?^\\1\\}$").matcher(code());
        while (method.find()) {
            String body = method.group();
            is("at most sixty lines: " + body.lines().findFirst().orElse(""), body.lines().count() <= 60);
        }
    }

    private static String code() throws IOException {
        return Files.readString(Path.of(SOURCE)).replaceAll("(?s)/\\*.*?\\*/|//[^\n]*", "");
    }

    private static void text() throws IOException {
        String code = code();
        Matcher found = Pattern.compile(FORBIDDEN).matcher(code);
        while (found.find()) {
            is("the text is without '" + found.group() + "'", false);
        }
    }
}
