import java.io.IOException;
import java.lang.reflect.Constructor;
import java.lang.reflect.Field;
import java.lang.reflect.Method;
import java.lang.reflect.Modifier;
import java.nio.file.Files;
import java.nio.file.Path;
import java.util.Arrays;
import java.util.Set;
import java.util.TreeSet;
import java.util.regex.Matcher;
import java.util.regex.Pattern;

/** The class shows the document's face and nothing else, and its source keeps to what LANGUAGE.md leaves. */
public final class FaceTest {
    private static final Check CHECK = new Check("face");

    private static final String[] METHODS = {
        "int sheet(int,int,int)", "int lose(int)", "int put(int,int,int,int)", "int get(int,int,int)",
        "int copy(int,int,int,int,int)", "int term(int,int)", "int degree(int)", "int value(int,int,int)",
        "int join(int,int,int,int)", "int mix(int,int,int,int,int,int)", "int change(int,int,int)",
        "int overlap(int,int,int,int)", "int alike(int,int)", "int roots(int)", "int root(int,int)",
        "int common(int,int,int)", "int result(int,int)", "int powers(int,int,int,int)",
        "int build(int,int,int,int,int)", "int rank(int,int)", "int leads(int,int,int)",
        "int lead(int,int,int,int)", "int staying(int,int,int)", "int count(int)", "long digest()"};

    private static final String[] WORDS_LEFT_OUT = {
        "throw", "try", "catch", "synchronized", "assert", "import", "package", "protected", "\\w*Exact", "native"};

    /** All of the library that the class has a use for. */
    private static final Set<String> LIBRARY = Set.of("Math.floorMod", "Math.max", "Math.min", "System.arraycopy");

    private static final int MOST_CLASSES = 12, MOST_FIELDS = 20, MOST_PARAMETERS = 7, MOST_LINES = 60;

    public static void main(String[] args) throws IOException {
        CHECK.holds("public and final", FormsOfTwo.class.getModifiers() == (Modifier.PUBLIC | Modifier.FINAL));
        methods();
        constructors();
        fields();
        classesInside();
        CHECK.holds("the source is told", args.length == 1);
        if (args.length == 1) {
            source(Files.readString(Path.of(args[0])));
        }
        CHECK.end();
    }

    private static String told(Method method) {
        StringBuilder text = new StringBuilder(method.getReturnType() + " " + method.getName() + "(");
        for (Class<?> type : method.getParameterTypes()) {
            text.append(text.charAt(text.length() - 1) == '(' ? "" : ",").append(type);
        }
        return text.append(")").toString();
    }

    private static void methods() {
        Set<String> seen = new TreeSet<>();
        Set<String> names = new TreeSet<>();
        for (Method method : FormsOfTwo.class.getDeclaredMethods()) {
            if (!Modifier.isPrivate(method.getModifiers())) {
                CHECK.holds(method + " is plainly public", method.getModifiers() == Modifier.PUBLIC);
                seen.add(told(method));
                names.add(method.getName());
            }
        }
        CHECK.holds("the methods are " + seen, seen.equals(new TreeSet<>(Arrays.asList(METHODS))));
        for (Method method : FormsOfTwo.class.getDeclaredMethods()) {
            CHECK.holds(method + " has a name of its own",
                !Modifier.isPrivate(method.getModifiers()) || !names.contains(method.getName()));
        }
        for (Class<?> inside : FormsOfTwo.class.getDeclaredClasses()) {
            for (Method method : inside.getDeclaredMethods()) {
                CHECK.holds(method + " has a name of its own", !names.contains(method.getName()));
            }
        }
    }

    private static void constructors() {
        Constructor<?>[] all = FormsOfTwo.class.getDeclaredConstructors();
        CHECK.holds("one constructor", all.length == 1 && all[0].getParameterCount() == 0
            && Modifier.isPublic(all[0].getModifiers()));
    }

    private static void fields() {
        Set<String> seen = new TreeSet<>();
        for (Field field : FormsOfTwo.class.getDeclaredFields()) {
            if (!Modifier.isPrivate(field.getModifiers())) {
                seen.add(field.toString());
            }
        }
        CHECK.holds("the fields are " + seen, seen.equals(new TreeSet<>(Arrays.asList(
            "public static final int FormsOfTwo.NONE", "public static final int FormsOfTwo.BAD",
            "public static final int FormsOfTwo.NOT"))));
    }

    private static void classesInside() {
        Class<?>[] all = FormsOfTwo.class.getDeclaredClasses();
        CHECK.holds("few classes", 1 + all.length <= MOST_CLASSES);
        small(FormsOfTwo.class);
        for (Class<?> inside : all) {
            small(inside);
            CHECK.holds(inside + " has none inside", inside.getDeclaredClasses().length == 0);
            CHECK.holds(inside + " is static", Modifier.isStatic(inside.getModifiers()));
            CHECK.holds(inside + " is hidden", !Modifier.isPublic(inside.getModifiers())
                && !Modifier.isProtected(inside.getModifiers()));
        }
    }

    /** Few fields, no static state, few parameters. */
    private static void small(Class<?> one) {
        int fields = 0;
        for (Field field : one.getDeclaredFields()) {
            int modifiers = field.getModifiers();
            if (Modifier.isStatic(modifiers)) {
                CHECK.holds(field + " is a constant", Modifier.isFinal(modifiers) && field.getType().isPrimitive());
            } else {
                fields++;
            }
        }
        CHECK.holds(one + " has few fields", fields <= MOST_FIELDS);
        for (Method method : one.getDeclaredMethods()) {
            CHECK.holds(method + " takes seven at most", method.getParameterCount() <= MOST_PARAMETERS);
        }
    }

    private static void source(String text) {
        String code = text.replaceAll("(?s)/\\*.*?\\*/", " ").replaceAll("//[^\n]*", " ");
        words(code);
        library(code);
        methodsOfSource(code);
    }

    private static void library(String code) {
        Set<String> own = new TreeSet<>();
        for (Class<?> inside : FormsOfTwo.class.getDeclaredClasses()) {
            own.add(inside.getSimpleName());
        }
        Matcher use = Pattern.compile("\\b([A-Z]\\w*[a-z]\\w*)\\s*\\.\\s*(\\w+)").matcher(code);
        while (use.find()) {
            CHECK.holds("the class may use " + use.group(),
                own.contains(use.group(1)) || LIBRARY.contains(use.group(1) + "." + use.group(2)));
        }
    }

    /**
     * Short ones, in which no call makes an object: fields and the constructor do. As the file is written, a method's
     * last line is a brace as far in as its first line.
     */
    private static void methodsOfSource(String code) {
        Matcher method = Pattern.compile("(?ms)^( {4}| {8})(?! |if|for|while|switch)([^\n=]*\\)) \\{$.*?^\\1\\}$")
            .matcher(code);
        int found = 0;
        while (method.find()) {
            found++;
            String head = method.group(2);
            CHECK.holds("short: " + head, method.group().split("\n").length <= MOST_LINES);
            CHECK.holds("makes no object: " + head, head.equals("public FormsOfTwo()")
                || !method.group().matches("(?s).*(\\bnew\\b|\\bclone\\b|[=\\]] *\\{|\").*"));
        }
        CHECK.due("methods and constructors of the source", found, declared(FormsOfTwo.class) + 1);
    }

    private static int declared(Class<?> one) {
        int methods = one.getDeclaredMethods().length;
        for (Class<?> inside : one.getDeclaredClasses()) {
            methods += declared(inside);
        }
        return methods;
    }

    private static void words(String code) {
        for (String word : WORDS_LEFT_OUT) {
            CHECK.holds("no " + word, !code.matches("(?s).*\\b" + word + "\\b.*"));
        }
        CHECK.holds("no lambda", !code.contains("->"));
        CHECK.holds("no method reference", !code.contains("::"));
    }
}
