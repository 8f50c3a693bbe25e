import java.io.IOException;
import java.lang.reflect.Field;
import java.lang.reflect.Method;
import java.lang.reflect.Modifier;
import java.nio.file.Files;
import java.nio.file.Path;
import java.util.List;
import java.util.Set;
import java.util.regex.Matcher;
import java.util.regex.Pattern;

/** The rules of LANGUAGE.md that can be read off the text of the class or off its members. */
public final class LanguageTest {
    private static final Path SOURCE = Path.of("src/main/java/ParityDisks.java");

    /** Rules 2, 6 and 13; a package or an import would bring what rule 4 doesn't list. */
    private static final List<String> NEVER = List.of(
        "\\bpackage\\b", "\\bimport\\b", "->", "::", "\\bsynchronized\\b", "\\bassert\\b", "\\bfinally\\b",
        "\\bvolatile\\b", "\\bnative\\b", "\\bThread\\b", "\\bgetMessage\\b", "\\bstatic\\s*\\{", "\\w+Exact\\b",
        "\\bfloat\\b", "\\bdouble\\b", "\\bjava\\.", "\\bSystem\\.(?!arraycopy\\b)", "\\bMath\\.random\\b");

    private static final Set<String> EXCEPTIONS = Set.of("IllegalStateException", "IllegalArgumentException",
        "UnsupportedOperationException");

    private static final Set<Class<?>> CONSTANTS = Set.of(int.class, long.class, boolean.class, char.class,
        String.class, int[].class, long[].class, char[].class, byte[].class);

    private static final int MOST_PARAMETERS = 7;
    private static final int MOST_LINES = 60;

    public static void main(String[] args) throws IOException {
        String code = withoutComments(Files.readString(SOURCE));
        for (String never : NEVER) {
            Due.holds("LANGUAGE.md: the class has no " + never, !Pattern.compile(never).matcher(code).find());
        }
        throwsWrittenTextsAlone(code);
        makesObjectsInItsConstructorAlone(code);
        methodsAreShort(code);
        membersKeepToTheRules();
        Due.end();
    }

    private static String withoutComments(String text) {
        return text.replaceAll("(?s)/\\*.*?\\*/", "").replaceAll("//[^\n]*", "");
    }

    /** Rule 6, and the document names these three alone. */
    private static void throwsWrittenTextsAlone(String code) {
        Matcher thrown = Pattern.compile("\\bthrow\\b[^;]*;").matcher(code);
        Pattern form = Pattern.compile("throw new (\\w+)\\((\"[^\"]*\")?\\);");
        while (thrown.find()) {
            Matcher made = form.matcher(thrown.group());
            Due.holds("rule 6: " + thrown.group(), made.matches() && EXCEPTIONS.contains(made.group(1)));
        }
    }

    /** Rule 12, and the room that all calls of a run share: a call makes its exception at most. */
    private static void makesObjectsInItsConstructorAlone(String code) {
        String constructor = between(code, "    public ParityDisks() {", "\n    }");
        Due.holds("rule 12: a call makes no object", countNew(code) == countNew(constructor));
        Due.holds("rule 6: a constructor does not throw", !constructor.contains("throw"));
    }

    private static int countNew(String code) {
        return (int) Pattern.compile("(?<!throw )\\bnew\\b").matcher(code).results().count();
    }

    private static String between(String code, String first, String last) {
        int from = code.indexOf(first);
        return code.substring(from, code.indexOf(last, from));
    }

    /** Rule 11. */
    private static void methodsAreShort(String code) {
        Matcher method = Pattern.compile("(?s)\n    [^\n]*\\{\n.*?\n    \\}").matcher(code);
        int found = 0;
        while (method.find()) {
            found++;
            Due.holds("rule 11: " + method.group().lines().skip(1).findFirst().orElse(""),
                method.group().lines().count() <= MOST_LINES);
        }
        Due.holds("methods were found", found >= ParityDisks.class.getDeclaredMethods().length);
    }

    /** Rules 1, 5 and 11. */
    private static void membersKeepToTheRules() {
        for (Field field : ParityDisks.class.getDeclaredFields()) {
            if (Modifier.isStatic(field.getModifiers())) {
                Due.holds("rule 5: " + field.getName(),
                    Modifier.isFinal(field.getModifiers()) && CONSTANTS.contains(field.getType()));
            }
        }
        for (Method method : ParityDisks.class.getDeclaredMethods()) {
            Due.holds("rule 11: " + method.getName(), method.getParameterCount() <= MOST_PARAMETERS);
        }
        for (Class<?> inside : ParityDisks.class.getDeclaredClasses()) {
            Due.holds("rule 1: " + inside.getName(), Modifier.isStatic(inside.getModifiers())
                && !Modifier.isPublic(inside.getModifiers()) && !Modifier.isProtected(inside.getModifiers()));
        }
    }
}
