import java.io.IOException;
import java.lang.reflect.Method;
import java.lang.reflect.Modifier;
import java.nio.file.Files;
import java.nio.file.Path;
import java.util.Arrays;
import java.util.regex.Matcher;
import java.util.regex.Pattern;

/** README.md tells the calls as they are, and its example answers as it says. */
public final class ReadmeTest {
    private static final Due due = new Due();
    private static final Pattern STEP =
            Pattern.compile("(?m)^play\\.((\\w+)\\(([\\d, ]*)\\)); +// (-?\\d+): ");

    public static void main(String[] args) throws IOException, ReflectiveOperationException {
        String text = Files.readString(Path.of("README.md"));
        example(text);
        tableOfCalls(text);
        tableOfTests(text);
        due.end();
    }

    private static void example(String text) throws ReflectiveOperationException {
        RungPlay play = new RungPlay();
        Matcher step = STEP.matcher(text);
        int steps = 0;
        while (step.find()) {
            steps++;
            long answer = answer(play, step.group(2), step.group(3));
            due.is(step.group(1), answer, Long.parseLong(step.group(4)));
        }
        due.is("each step tells its answer", steps, text.split("\nplay\\.").length - 1);
        due.holds("there are steps", steps > 10);
    }

    private static long answer(RungPlay play, String name, String told)
            throws ReflectiveOperationException {
        Object[] numbers = Arrays.stream(told.split(", ")).filter(s -> !s.isEmpty())
                .map(Integer::valueOf).toArray();
        Class<?>[] types = new Class<?>[numbers.length];
        Arrays.fill(types, int.class);
        Method method = RungPlay.class.getMethod(name, types);
        return ((Number) method.invoke(play, numbers)).longValue();
    }

    private static void tableOfCalls(String text) {
        for (Method method : RungPlay.class.getDeclaredMethods()) {
            if (Modifier.isPublic(method.getModifiers())) {
                int numbers = method.getParameterCount();
                String names = numbers == 0 ? "" : "\\w+(, \\w+){" + (numbers - 1) + "}";
                Pattern row = Pattern.compile("\n\\| `" + method.getName() + "\\(" + names + "\\)` \\|");
                due.holds("a row for " + method.getName(), row.matcher(text).find());
            }
        }
    }

    private static void tableOfTests(String text) throws IOException {
        try (var files = Files.list(Path.of("src/test/java"))) {
            files.map(file -> file.getFileName().toString()).forEach(name -> {
                String shown = name.endsWith("Test.java") ? name.replace(".java", "") : name;
                due.holds(name + " is named", text.contains("`" + shown + "`"));
            });
        }
    }
}
