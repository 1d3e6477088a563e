import java.io.IOException;
import java.lang.reflect.Field;
import java.lang.reflect.Method;
import java.lang.reflect.Modifier;
import java.nio.file.Files;
import java.nio.file.Path;
import java.util.ArrayList;
import java.util.List;
import java.util.Set;
import java.util.TreeSet;
import java.util.regex.Matcher;
import java.util.regex.Pattern;

/** The rules of ../shared/LANGUAGE.md that can be told from the class and from its words. */
public final class LanguageTest extends Check {
    private static final Path PROGRAM = Path.of("src/main/java/HeartVanes.java");
    /** What rules 2, 4, 6 and 13 leave out, or what this class has no need of. */
    private static final String[] FORBIDDEN = {"import", "package", "try", "catch", "finally", "throw", "throws", "synchronized", "assert",
        "volatile", "transient", "native", "goto", "double", "float", "Object", "equals", "hashCode", "toString", "Thread", "Random", "Exception",
        "var", "protected"};
    private static final Set<String> LIBRARY = Set.of("Math.abs", "Math.min", "Math.max", "System.arraycopy");

    private static List<Class<?>> classes() {
        List<Class<?>> all = new ArrayList<>(List.of(HeartVanes.class.getDeclaredClasses()));
        all.add(HeartVanes.class);
        return all;
    }

    /** The program without its comments and with its texts and letters empty. */
    private static String words() {
        try {
            return Files.readString(PROGRAM).replaceAll("(?s)/\\*.*?\\*/", "").replaceAll("//[^\n]*", "")
                    .replaceAll("\"[^\"]*\"", "\"\"").replaceAll("'[^']'", "'.'");
        } catch (IOException unread) {
            throw new IllegalStateException(unread);
        }
    }

    private static int count(String regex, String text) {
        Matcher matcher = Pattern.compile(regex).matcher(text);
        int many = 0;
        while (matcher.find()) {
            many++;
        }
        return many;
    }

    private static void forbiddenWords() {
        String words = words();
        for (String word : FORBIDDEN) {
            due("the word " + word, count("\\b" + word + "\\b", words), 0);
        }
        due("lambdas and references to methods", count("->|::", words), 0);
        due("blocks of static initialisers", count("static\\s*\\{", words), 0);
        due("catching or calling by Exact", count("Exact\\(", words), 0);
        due("texts joined by +", count("\"\\s*\\+|\\+\\s*\"", words), 0);
        Matcher library = Pattern.compile("\\b[A-Z][a-z]\\w*\\.[a-z]\\w*(?=\\()").matcher(words);
        Set<String> own = new TreeSet<>();
        while (library.find()) {
            own.add(library.group());
        }
        own.removeAll(LIBRARY);
        due("calls of a library beyond what is told: " + own, own.size(), 0);
    }

    private static void classesInside() {
        Set<String> face = new TreeSet<>();
        for (Method method : HeartVanes.class.getDeclaredMethods()) {
            if (Modifier.isPublic(method.getModifiers())) {
                face.add(method.getName());
            }
        }
        dueTrue("some twelve classes", classes().size() <= 12);
        for (Class<?> own : classes()) {
            if (own != HeartVanes.class) {
                dueTrue(own + " is static and not public", Modifier.isStatic(own.getModifiers())
                        && !Modifier.isPublic(own.getModifiers()) && !Modifier.isProtected(own.getModifiers()));
            }
            for (Method method : own.getDeclaredMethods()) {
                dueTrue(own + "." + method.getName() + " has 7 parameters at most", method.getParameterCount() <= 7);
                boolean isFace = own == HeartVanes.class && Modifier.isPublic(method.getModifiers());
                dueTrue(own + "." + method.getName() + " bears a name of its own", isFace || !face.contains(method.getName()));
            }
        }
    }

    private static void fields() {
        for (Class<?> own : classes()) {
            int many = 0;
            for (Field field : own.getDeclaredFields()) {
                boolean isStatic = Modifier.isStatic(field.getModifiers());
                many += isStatic ? 0 : 1;
                dueTrue(own + "." + field.getName() + " is no static state", !isStatic || Modifier.isFinal(field.getModifiers()));
            }
            dueTrue(own + " has some twenty fields", many <= 20);
        }
    }

    /** A call that makes nothing can't fill the room in which all calls live: new stands in constructors and fields alone. */
    private static void objectsAreMadeInConstructors() {
        String method = "";
        int depth = 0;
        int length = 0;
        for (String line : words().split("\n")) {
            Matcher head = Pattern.compile("(\\w+)\\([^;]*\\)\\s*\\{\\s*$").matcher(line);
            if (method.isEmpty() && head.find()) {
                method = head.group(1);
                depth = 0;
                length = 0;
            }
            length++;
            depth += count("\\{", line) - count("\\}", line);
            boolean isConstructor = !method.isEmpty() && Character.isUpperCase(method.charAt(0));
            dueTrue("nothing is made in " + method + ": " + line.trim(),
                    method.isEmpty() || isConstructor || count("\\bnew\\b|\\bclone\\b|copyOf", line) == 0);
            if (!method.isEmpty() && depth <= 0) {
                dueTrue(method + " is short", length <= 60);
                method = "";
            }
        }
    }

    public static void main(String[] args) {
        forbiddenWords();
        classesInside();
        fields();
        objectsAreMadeInConstructors();
        end();
    }
}
