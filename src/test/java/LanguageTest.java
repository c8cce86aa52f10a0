import java.io.IOException;
import java.lang.reflect.Constructor;
import java.lang.reflect.Executable;
import java.lang.reflect.Field;
import java.lang.reflect.Method;
import java.lang.reflect.Modifier;
import java.nio.file.Files;
import java.nio.file.Path;
import java.util.ArrayList;
import java.util.Arrays;
import java.util.List;
import java.util.Set;
import java.util.TreeSet;
import java.util.regex.Matcher;
import java.util.regex.Pattern;

/** The class keeps to those rules of LANGUAGE.md that can be seen in its text or its members. */
public final class LanguageTest {
    private static final Path PROGRAM = Path.of("src/main/java/StabilitySums.java");
    private static final Set<String> FORBIDDEN_WORDS = Set.of("package", "import", "try", "catch", "finally",
            "synchronized", "assert", "double", "float", "Object", "System", "Thread", "protected", "native", "volatile");
    private static final Set<String> EXCEPTIONS = Set.of("IllegalArgumentException", "IllegalStateException",
            "IndexOutOfBoundsException", "ArithmeticException");
    private static final Set<String> LIBRARY = Set.of("Math.floorDiv", "Math.abs", "Math.min");

    private final Due due = new Due();
    /** The program without its comments and without what stands inside its texts. */
    private final String code;
    private final List<Class<?>> classes = new ArrayList<>();

    private LanguageTest(String text) {
        code = text.replaceAll("(?s)/\\*.*?\\*/", "").replaceAll("//[^\n]*", "").replaceAll("\"[^\"\n]*\"", "\"\"");
        classes.add(StabilitySums.class);
        classes.addAll(Arrays.asList(StabilitySums.class.getDeclaredClasses()));
    }

    private void words() {
        for (String word : code.split("\\W+")) {
            due.holds("the word " + word + " is not of the language", !FORBIDDEN_WORDS.contains(word));
        }
        due.holds("rule 2: a lambda or a method reference", !code.contains("->") && !code.contains("::"));
        due.holds("rule 10: texts are joined by +", !Pattern.compile("\"\\s*\\+|\\+\\s*\"").matcher(code).find());
        for (String call : allOf("\\b([A-Z][a-z]\\w*\\.\\w+)\\s*\\(")) {
            due.holds("rule 4: " + call + " of the library", LIBRARY.contains(call));
        }
    }

    private Set<String> allOf(String pattern) {
        Set<String> all = new TreeSet<>();
        Matcher matcher = Pattern.compile(pattern).matcher(code);
        while (matcher.find()) {
            all.add(matcher.group(1));
        }
        return all;
    }

    private void insideClasses() {
        due.holds("rule 11: " + classes.size() + " classes", classes.size() <= 12);
        for (Class<?> c : classes) {
            int modifiers = c.getModifiers();
            due.holds("rule 1: " + c + " is not static or can be seen", c == StabilitySums.class
                    || Modifier.isStatic(modifiers) && !Modifier.isPublic(modifiers) && !Modifier.isProtected(modifiers));
            due.holds("rule 2: " + c + " has classes of its own", c == StabilitySums.class || c.getDeclaredClasses().length == 0);
        }
    }

    private void fields() {
        for (Class<?> c : classes) {
            int own = 0;
            for (Field f : c.getDeclaredFields()) {
                boolean isStatic = Modifier.isStatic(f.getModifiers());
                own += isStatic ? 0 : 1;
                due.holds("rule 5: " + f, !isStatic || Modifier.isFinal(f.getModifiers())
                        && (f.getType() == int.class || f.getType() == long.class));
            }
            due.holds("rule 11: " + c + " has " + own + " fields", own <= 20);
        }
    }

    private void parameters() {
        for (Class<?> c : classes) {
            List<Executable> all = new ArrayList<>(Arrays.asList(c.getDeclaredMethods()));
            all.addAll(Arrays.asList(c.getDeclaredConstructors()));
            for (Executable e : all) {
                due.holds("rule 11: " + e + " has too many parameters", e.getParameterCount() <= 7);
                due.holds("rule 6: " + e + " is one of the machine's own",
                        !Set.of("equals", "hashCode", "toString").contains(e.getName()));
            }
        }
    }

    /** Bodies are told by their indents: four more for each class that they stand in. */
    private void bodies() {
        Set<String> publicNames = new TreeSet<>();
        for (Method m : StabilitySums.class.getDeclaredMethods()) {
            if (Modifier.isPublic(m.getModifiers())) {
                publicNames.add(m.getName());
            }
        }
        Matcher matcher = Pattern.compile("(?m)^( {4}| {8})(?:\\w[\\w\\[\\]]* )*(\\w+)\\([^;{]*\\{\n((?:\\1 .*\n|\n)*)\\1\\}").matcher(code);
        int found = 0;
        while (matcher.find()) {
            found++;
            String name = matcher.group(2);
            String body = matcher.group(3);
            due.holds("rule 11: " + name + " is too long", body.split("\n").length <= 60);
            due.holds("rule 6: " + name + " throws, and is not of the face", publicNames.contains(name) || !body.contains("throw "));
        }
        int members = 0;
        for (Class<?> c : classes) {
            members += c.getDeclaredMethods().length;
            for (Constructor<?> k : c.getDeclaredConstructors()) {
                members += Modifier.isPublic(k.getModifiers()) ? 1 : 0;
            }
        }
        due.holds("the test sees " + found + " bodies of " + members, found == members);
    }

    private void exceptions() {
        Matcher matcher = Pattern.compile("\\bthrow\\b([^;]*);").matcher(code);
        int found = 0;
        while (matcher.find()) {
            found++;
            Matcher made = Pattern.compile(" new (\\w+)\\(\"\"\\)").matcher(matcher.group(1));
            due.holds("rule 6: throw" + matcher.group(1), made.matches() && EXCEPTIONS.contains(made.group(1)));
        }
        due.holds("the test sees no throw", found > 0);
    }

    public static void main(String[] args) throws IOException {
        LanguageTest test = new LanguageTest(Files.readString(PROGRAM));
        test.words();
        test.insideClasses();
        test.fields();
        test.parameters();
        test.bodies();
        test.exceptions();
        test.due.end();
    }
}
