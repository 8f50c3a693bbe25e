import java.io.File;
import java.io.IOException;
import java.lang.reflect.Method;
import java.lang.reflect.Modifier;
import java.nio.file.Files;
import java.nio.file.Path;
import java.util.ArrayList;
import java.util.List;
import java.util.regex.Matcher;
import java.util.regex.Pattern;

/** README.md says what is so: its example answers as it tells, and it names every call and test. */
public final class ReadmeTest {
    private static final Pattern STEP = Pattern.compile("disks\\.(\\w+)\\(([^)]*)\\);(?:\\s*// (.*))?");
    private static final Pattern TOLD = Pattern.compile("(-?\\d+)[,:].*");

    public static void main(String[] args) throws IOException {
        String readme = Files.readString(Path.of("README.md"));
        exampleAnswersAsItTells(readme);
        namesEveryCall(readme);
        namesEveryTest(readme);
        Due.holds("README.md tells how the tests are run", readme.contains(".ci/run"));
        Due.holds("README.md tells for how many calls an object is used", readme.contains("512 calls"));
        Due.end();
    }

    /** A comment that begins with a number and a comma or colon tells the answer. */
    private static void exampleAnswersAsItTells(String readme) {
        ParityDisks disks = new ParityDisks();
        int answers = 0;
        for (String line : example(readme)) {
            Matcher step = STEP.matcher(line);
            if (!step.matches()) {
                Due.same("README.md", "ParityDisks disks = new ParityDisks();", line);
                continue;
            }
            String got = Due.told(() -> made(disks, step.group(1), step.group(2)));
            Matcher told = TOLD.matcher(step.group(3) == null ? "" : step.group(3));
            if (told.matches()) {
                answers++;
                Due.same("README.md: " + line, told.group(1), got);
            } else {
                Due.same("README.md: " + line, "null", got);
            }
        }
        Due.holds("the example tells answers", answers > 0);
    }

    private static List<String> example(String readme) {
        List<String> lines = new ArrayList<>();
        boolean within = false;
        for (String line : readme.split("\n")) {
            if (line.startsWith("```")) {
                within = line.equals("```java");
            } else if (within) {
                lines.add(line);
            }
        }
        return lines;
    }

    private static String made(ParityDisks disks, String name, String written) {
        String[] texts = written.isEmpty() ? new String[0] : written.split(", ");
        Object[] values = new Object[texts.length];
        for (int i = 0; i < texts.length; i++) {
            values[i] = value(texts[i]);
        }
        for (Method method : ParityDisks.class.getMethods()) {
            if (method.getName().equals(name) && method.getDeclaringClass() == ParityDisks.class) {
                return called(disks, method, values);
            }
        }
        return "no such call";
    }

    private static Object value(String text) {
        if (text.endsWith("L")) {
            return Long.valueOf(text.substring(0, text.length() - 1));
        }
        return Integer.valueOf(text);
    }

    private static String called(ParityDisks disks, Method method, Object[] values) {
        try {
            return String.valueOf(method.invoke(disks, values));
        } catch (ReflectiveOperationException e) {
            return e.toString();
        }
    }

    private static void namesEveryCall(String readme) {
        for (Method method : ParityDisks.class.getDeclaredMethods()) {
            if (Modifier.isPublic(method.getModifiers())) {
                Due.holds("README.md names " + method.getName(), readme.contains("`" + method.getName() + "("));
            }
        }
    }

    private static void namesEveryTest(String readme) {
        for (File file : new File("src/test/java").listFiles()) {
            Due.holds("README.md names " + file.getName(), readme.contains(file.getName()));
        }
    }
}
