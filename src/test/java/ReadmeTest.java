import java.io.IOException;
import java.lang.reflect.Method;
import java.lang.reflect.Modifier;
import java.nio.file.Files;
import java.nio.file.Path;
import java.util.Set;
import java.util.TreeSet;
import java.util.regex.Matcher;
import java.util.regex.Pattern;

/** What README.md shows of calls and answers is what the class answers, and no call of the face is left out. */
public final class ReadmeTest {
    private static final Check CHECK = new Check("readme");
    private static final String NEW_OBJECT = "FormsOfTwo x = new FormsOfTwo();";
    private static final Pattern SHOWN = Pattern.compile("x\\.(\\w+)\\(([-\\d, ]*)\\); +// (-?\\d+)(: .*)?");

    public static void main(String[] args) throws IOException {
        CHECK.holds("the source is told", args.length == 1);
        if (args.length == 1) {
            Set<String> missing = notIn(shown(readmeOf(args[0])));
            CHECK.holds("every call is shown, but not " + missing, missing.isEmpty());
        }
        CHECK.end();
    }

    /** The source is src/main/java/FormsOfTwo.java of the project. */
    private static String readmeOf(String source) throws IOException {
        return Files.readString(Path.of(source).toAbsolutePath().resolveSibling("../../../README.md").normalize());
    }

    /** Makes the calls of every block of Java, in their order: the names of those that were made. */
    private static Set<String> shown(String readme) {
        Set<String> names = new TreeSet<>();
        FormsOfTwo x = null;
        boolean java = false;
        for (String line : readme.split("\n")) {
            if (line.startsWith("```")) {
                java = line.equals("```java");
            } else if (java && line.equals(NEW_OBJECT)) {
                x = new FormsOfTwo();
            } else if (java) {
                names.add(compared(x, line));
            }
        }
        return names;
    }

    private static String compared(FormsOfTwo x, String line) {
        Matcher call = SHOWN.matcher(line);
        boolean shown = x != null && call.matches();
        CHECK.holds("a call of an object, with its answer: " + line, shown);
        if (!shown) {
            return "";
        }
        CHECK.due(line, Board.answer(x, call.group(1), numbers(call.group(2))), Long.parseLong(call.group(3)));
        return call.group(1);
    }

    private static int[] numbers(String told) {
        if (told.isEmpty()) {
            return new int[0];
        }
        String[] parts = told.split(", ");
        int[] all = new int[parts.length];
        for (int i = 0; i < parts.length; i++) {
            all[i] = Integer.parseInt(parts[i]);
        }
        return all;
    }

    private static Set<String> notIn(Set<String> shown) {
        Set<String> missing = new TreeSet<>();
        for (Method method : FormsOfTwo.class.getDeclaredMethods()) {
            if (Modifier.isPublic(method.getModifiers()) && !shown.contains(method.getName())) {
                missing.add(method.getName());
            }
        }
        return missing;
    }
}
