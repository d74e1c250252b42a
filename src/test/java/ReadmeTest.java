import java.io.IOException;
import java.lang.reflect.Field;
import java.lang.reflect.Method;
import java.lang.reflect.Modifier;
import java.nio.file.DirectoryStream;
import java.nio.file.Files;
import java.nio.file.Path;
import java.util.ArrayList;
import java.util.List;
import java.util.regex.Matcher;
import java.util.regex.Pattern;

/**
 * README.md is there, its examples answer as it says and leave out no call, and
 * the tests and files that it names are those of the project. Runs in the
 * project's root.
 */
public final class ReadmeTest {
    private static final Path README = Path.of("README.md");
    private static final Pattern EXAMPLE = Pattern.compile("(?ms)^```java\n(.*?)^```$");
    private static final String MAKING = "KeyTreeGroup group = new KeyTreeGroup();";
    private static final Pattern CALL = Pattern.compile("group\\.(\\w+\\([-\\d, ]+\\)); +// (-?\\w+)(: .+)?");
    private static final Pattern TEST = Pattern.compile("(?m)^- `(\\w+)`:");

    private static final Due due = new Due();

    public static void main(String[] args) throws IOException {
        due.so(Files.isRegularFile(README), () -> "there is no README.md");
        String text = Files.isRegularFile(README) ? Files.readString(README) : "";
        List<String> runs = runsOfTheExamples(text);
        due.so(!runs.isEmpty(), () -> "README.md has no example of how to use the class");
        for (String run : runs) {
            new Script(run).play("README.md", due);
        }
        examplesLeaveOutNoCall(String.join(" ", runs));
        constantsAreAsTold(text);
        testsAreThoseOfTheProject(text);
        commandIsThere(text);
        due.end("ReadmeTest");
    }

    private static List<String> runsOfTheExamples(String text) {
        List<String> runs = new ArrayList<>();
        Matcher example = EXAMPLE.matcher(text);
        while (example.find()) {
            runs.add(runOf(example.group(1)));
        }
        return runs;
    }

    /** Each line but the first is a call that tells its answer; no line may be passed over. */
    private static String runOf(String example) {
        String[] lines = example.strip().split("\n");
        due.so(lines[0].equals(MAKING), () -> "README.md: an example does not begin with a new object: " + lines[0]);
        StringBuilder run = new StringBuilder();
        for (int i = 1; i < lines.length; i++) {
            String line = lines[i];
            Matcher call = CALL.matcher(line);
            boolean told = call.matches();
            due.so(told, () -> "README.md: not a call with its answer: " + line);
            if (told) {
                run.append(call.group(1)).append("=").append(call.group(2)).append(" ");
            }
        }
        due.so(run.length() > 0, () -> "README.md: an example without a call");
        return run.toString();
    }

    private static void examplesLeaveOutNoCall(String runs) {
        for (Method method : KeyTreeGroup.class.getDeclaredMethods()) {
            if (Modifier.isPublic(method.getModifiers())) {
                Pattern call = Pattern.compile("\\b" + method.getName() + "\\(");
                due.so(call.matcher(runs).find(), () -> "README.md: no example of " + method.getName());
            }
        }
    }

    private static void constantsAreAsTold(String text) {
        Matcher told = Pattern.compile("`([A-Z]+)` \\((-?\\d+)\\)").matcher(text);
        int seen = 0;
        while (told.find()) {
            due.is("README.md: " + told.group(1), constant(told.group(1)), Integer.parseInt(told.group(2)));
            seen++;
        }
        due.is("README.md: constants told", seen, 7);
    }

    private static int constant(String name) {
        try {
            Field field = KeyTreeGroup.class.getField(name);
            return field.getInt(null);
        } catch (ReflectiveOperationException e) {
            return Integer.MIN_VALUE;
        }
    }

    private static void testsAreThoseOfTheProject(String text) throws IOException {
        List<String> told = new ArrayList<>();
        Matcher test = TEST.matcher(text);
        while (test.find()) {
            told.add(test.group(1));
        }
        List<String> there = new ArrayList<>();
        try (DirectoryStream<Path> files = Files.newDirectoryStream(Path.of("src/test/java"), "*Test.java")) {
            files.forEach(file -> there.add(file.getFileName().toString().replace(".java", "")));
        }
        for (String name : there) {
            due.so(told.contains(name), () -> "README.md does not tell of " + name);
        }
        for (String name : told) {
            due.so(there.contains(name), () -> "README.md tells of " + name + ", which is not there");
        }
    }

    private static void commandIsThere(String text) {
        due.so(text.contains("\n    .ci/run\n"), () -> "README.md does not say how to run the tests");
        due.so(Files.isExecutable(Path.of(".ci/run")), () -> ".ci/run is not there or not executable");
        Matcher file = Pattern.compile("`(src/[\\w/.]+\\.java)`").matcher(text);
        while (file.find()) {
            String name = file.group(1);
            due.so(Files.isRegularFile(Path.of(name)), () -> "README.md names " + name + ", which is not there");
        }
    }
}
