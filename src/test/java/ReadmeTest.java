import java.io.IOException;
import java.lang.reflect.Method;
import java.lang.reflect.Modifier;
import java.nio.file.Files;
import java.nio.file.Path;
import java.util.Arrays;
import java.util.Map;
import java.util.Set;
import java.util.TreeSet;
import java.util.regex.Matcher;
import java.util.regex.Pattern;

/** README.md says what is so: its example answers as it tells there, and its table names the calls of the face, all of them. */
public final class ReadmeTest extends Check {
    private static final Pattern TEXT = Pattern.compile("String text = \"([^\"]*)\";");
    private static final Pattern EXAMPLE = Pattern.compile("(?m)^vanes\\.(\\w+)\\(([^)]*)\\); +// (\\w+):");
    private static final Pattern ROW = Pattern.compile("(?m)^\\| `(\\w+)\\(([^)]*)\\)` \\|.*\\|([^|]*)\\|$");
    private static final Map<String, Integer> ANSWERS = Map.of("BAD", BAD, "NO", NO, "FULL", FULL, "NONE", NONE);

    private static String readme() throws IOException {
        return Files.readString(Path.of("README.md"));
    }

    private static int many(String arguments) {
        return arguments.isBlank() ? 0 : arguments.split(",").length;
    }

    private static int answer(HeartVanes vanes, String call, String arguments) throws ReflectiveOperationException {
        Object[] numbers = new Object[many(arguments)];
        Class<?>[] types = new Class<?>[numbers.length];
        for (int i = 0; i < numbers.length; i++) {
            numbers[i] = Integer.parseInt(arguments.split(",")[i].trim());
            types[i] = int.class;
        }
        return (int) HeartVanes.class.getMethod(call, types).invoke(vanes, numbers);
    }

    private static void exampleAnswersSo(String readme) throws ReflectiveOperationException {
        Matcher text = TEXT.matcher(readme);
        dueTrue("README.md tells a text", text.find());
        HeartVanes vanes = new HeartVanes();
        for (char letter : text.group(1).toCharArray()) {
            vanes.write(letter);
        }
        Matcher example = EXAMPLE.matcher(readme);
        int calls = 0;
        while (example.find()) {
            String want = example.group(3);
            int due = ANSWERS.containsKey(want) ? ANSWERS.get(want) : Integer.parseInt(want);
            due("README.md: " + example.group(), answer(vanes, example.group(1), example.group(2)), due);
            calls++;
        }
        due("calls of the example that were tried", calls, readme.split("(?m)^vanes\\.", -1).length - 1);
        dueTrue("README.md has an example", calls > 0);
    }

    private static void tableHasTheFace(String readme) {
        Set<String> face = new TreeSet<>();
        for (Method method : HeartVanes.class.getDeclaredMethods()) {
            if (Modifier.isPublic(method.getModifiers())) {
                face.add(method.getName() + method.getParameterCount());
            }
        }
        Set<String> rows = new TreeSet<>();
        Matcher row = ROW.matcher(readme);
        while (row.find()) {
            rows.add(row.group(1) + many(row.group(2)));
        }
        dueTrue("README.md's calls " + rows + " are those of the face " + face, rows.equals(face));
    }

    /** What the table's last column says, as the document's promises do. */
    private static void tableHasTheRefusals(String readme) throws IOException {
        String document = Files.readString(Path.of("../shared/DOC.md"));
        Matcher row = ROW.matcher(readme);
        while (row.find()) {
            Matcher promise = Pattern.compile("(?m)^`int " + row.group(1) + "\\([^`]*`: (.*)$").matcher(document);
            dueTrue("the document promises " + row.group(1), promise.find());
            Set<String> told = refusals(promise.group(1));
            Set<String> here = refusals(row.group(3));
            dueTrue("README.md's " + row.group(1) + ": " + here + ", the document's: " + told, here.equals(told));
        }
    }

    private static Set<String> refusals(String words) {
        Set<String> all = new TreeSet<>(Arrays.asList(words.split("\\W+")));
        all.retainAll(ANSWERS.keySet());
        return all;
    }

    private static void testsAreNamed(String readme) throws IOException {
        try (var files = Files.list(Path.of("src/test/java"))) {
            for (Path file : files.toList()) {
                String name = file.getFileName().toString().replace(".java", "");
                boolean isPromise = name.matches("Promise(0[1-9]|1\\d|2[0-8])Test");
                dueTrue("README.md names " + name, isPromise || readme.contains("`" + name + "`"));
            }
        }
    }

    public static void main(String[] args) throws Exception {
        String readme = readme();
        exampleAnswersSo(readme);
        tableHasTheFace(readme);
        tableHasTheRefusals(readme);
        testsAreNamed(readme);
        end();
    }
}
