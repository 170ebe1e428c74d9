import java.io.File;
import java.io.IOException;
import java.lang.reflect.Method;
import java.lang.reflect.Modifier;
import java.nio.file.Files;
import java.nio.file.Path;
import java.util.Arrays;
import java.util.List;
import java.util.regex.Matcher;
import java.util.regex.Pattern;

/** README.md: its example is run as it stands there, and it tells of every call and every test. */
final class ReadmeTest {
    private static final String FIRST_LINE = "SurveyStore s = new SurveyStore();";
    private static final Pattern CALL = Pattern.compile("s\\.(\\w+)\\(([-0-9, ]*)\\);(?: +// (-?\\d+|true|false)?.*)?");
    private static final Checks checks = new Checks("ReadmeTest");

    public static void main(String[] args) throws IOException, ReflectiveOperationException {
        List<String> lines = Files.readAllLines(Path.of("README.md"));
        runExample(lines);
        String text = String.join("\n", lines);
        tellsOfEveryCall(text);
        tellsOfEveryTest(text);
        checks.end();
    }

    private static void runExample(List<String> lines) throws ReflectiveOperationException {
        int first = lines.indexOf("```java") + 1;
        checks.yes("the example begins with a new object", lines.get(first).startsWith(FIRST_LINE));
        SurveyStore s = new SurveyStore();
        for (int i = first + 1; !lines.get(i).equals("```"); i++) {
            runLine(s, lines.get(i));
        }
    }

    private static void runLine(SurveyStore s, String line) throws ReflectiveOperationException {
        Matcher call = CALL.matcher(line);
        checks.yes("this is a call: " + line, call.matches());
        if (!call.matches()) {
            return;
        }
        Object[] numbers = Arrays.stream(call.group(2).split(", ")).map(Integer::valueOf).toArray();
        Class<?>[] ints = new Class<?>[numbers.length];
        Arrays.fill(ints, int.class);
        Method method = SurveyStore.class.getMethod(call.group(1), ints);
        Object answer = method.invoke(s, numbers);
        boolean isVoid = method.getReturnType() == void.class;
        String told = call.group(3);
        checks.yes(line + " answered " + answer, isVoid ? told == null : String.valueOf(answer).equals(told));
    }

    private static void tellsOfEveryCall(String text) {
        for (Method m : SurveyStore.class.getDeclaredMethods()) {
            if (Modifier.isPublic(m.getModifiers())) {
                int commas = m.getParameterCount() - 1;
                Pattern row = Pattern.compile("\n\\| `" + m.getName() + "\\(\\w+(, \\w+){" + commas + "}\\)` \\|");
                checks.yes("a row about " + m.getName(), row.matcher(text).find());
            }
        }
    }

    private static void tellsOfEveryTest(String text) {
        for (String name : new File("src/test/java").list()) {
            if (name.endsWith("Test.java")) {
                String row = "\n| `" + name.replace(".java", "") + "` |";
                checks.yes("a row about " + name, text.contains(row));
            }
        }
    }
}
