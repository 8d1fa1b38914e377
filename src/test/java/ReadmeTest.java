import java.io.IOException;
import java.lang.reflect.Method;
import java.lang.reflect.Modifier;
import java.nio.file.Files;
import java.nio.file.Path;
import java.util.ArrayList;
import java.util.List;
import java.util.Map;
import java.util.TreeMap;
import java.util.TreeSet;
import java.util.regex.Matcher;
import java.util.regex.Pattern;

/**
 * The README: its example answers what it says, and its table has each call as the class has it, with the answer by
 * which the call refuses. It is run from the project's directory.
 */
public final class ReadmeTest {
    private static final Checks C = new Checks("ReadmeTest");
    private static final Pattern ROW = Pattern.compile("(?m)^\\| `(\\w+ (\\w+)\\([^)]*\\))` \\| [^|]+ \\| `(\\w+)`");
    private static final Pattern EXAMPLE = Pattern.compile("(?s)```java\n(.*?)```");
    private static final Pattern PRINTED = Pattern.compile("println\\(.*// (-?\\d+)\n");
    /** The tape has room for six feedings: the call that can't be given wrong numbers is refused then. */
    private static final int TIMES = 7;

    public static void main(String[] args) throws Exception {
        String readme = Files.readString(Path.of("README.md"));
        String source = Files.readString(Path.of("src/main/java/PictureAgency.java"));
        callsAreThoseOfTheClass(readme, source);
        exampleAnswersAsTold(readme);
        C.finish();
    }

    private static void callsAreThoseOfTheClass(String readme, String source) throws ReflectiveOperationException {
        Map<String, String> refusals = new TreeMap<>();
        Matcher row = ROW.matcher(readme);
        while (row.find()) {
            C.yes(row.group(1) + " is in the class", source.contains("    public " + row.group(1) + " {\n"));
            C.yes(row.group(1) + " has one row", refusals.put(row.group(2), row.group(3)) == null);
        }
        TreeSet<String> names = new TreeSet<>();
        for (Method m : PictureAgency.class.getDeclaredMethods()) {
            if (Modifier.isPublic(m.getModifiers())) {
                names.add(m.getName());
                String told = refusals.get(m.getName());
                C.yes(m.getName() + " refuses with " + told, refusalOf(m).equals(told));
            }
        }
        C.yes("the rows are the calls: " + refusals.keySet(), names.equals(refusals.keySet()));
    }

    private static String refusalOf(Method m) throws ReflectiveOperationException {
        PictureAgency x = new PictureAgency();
        Object[] wrong = new Object[m.getParameterCount()];
        for (int i = 0; i < wrong.length; i++) {
            Class<?> type = m.getParameterTypes()[i];
            wrong[i] = type == boolean.class ? (Object) true : type == long.class ? (Object) 0L
                    : (Object) Integer.MIN_VALUE;
        }
        String answer = "";
        for (int i = 0; i < TIMES; i++) {
            answer = String.valueOf(m.invoke(x, wrong));
        }
        return answer.equals("-1") ? "NONE" : answer;
    }

    private static void exampleAnswersAsTold(String readme) throws Exception {
        Matcher example = EXAMPLE.matcher(readme);
        C.yes("there is an example", example.find());
        List<String> told = new ArrayList<>();
        Matcher line = PRINTED.matcher(example.group(1));
        while (line.find()) {
            told.add(line.group(1));
        }
        List<String> printed = outputOf(example.group(1));
        C.yes("the example prints " + printed + ", the README tells " + told,
                !told.isEmpty() && told.equals(printed));
    }

    private static List<String> outputOf(String statements) throws Exception {
        Path directory = Files.createTempDirectory("readme");
        Path file = directory.resolve("Example.java");
        try {
            Files.writeString(file, "public class Example { public static void main(String[] args) {\n" + statements
                    + "} }\n");
            return runAlone(file);
        } finally {
            Files.deleteIfExists(file);
            Files.deleteIfExists(directory);
        }
    }

    private static List<String> runAlone(Path file) throws IOException, InterruptedException {
        Process java = new ProcessBuilder(Path.of(System.getProperty("java.home"), "bin", "java").toString(),
                "-cp", System.getProperty("java.class.path"), file.toString()).redirectErrorStream(true).start();
        String output = new String(java.getInputStream().readAllBytes());
        C.due("the example ends with exit code", java.waitFor(), 0);
        return output.lines().toList();
    }
}
