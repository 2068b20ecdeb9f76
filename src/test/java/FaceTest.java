import java.io.IOException;
import java.lang.reflect.Field;
import java.lang.reflect.Method;
import java.lang.reflect.Modifier;
import java.nio.file.Files;
import java.nio.file.Path;
import java.util.Set;
import java.util.TreeSet;
import java.util.regex.Matcher;
import java.util.regex.Pattern;

/** The public face, and what LANGUAGE.md rules out that can be seen in the text or the class. */
public final class FaceTest {
    private static final Due due = new Due();
    private static final Set<String> FACE = Set.of("set(II)I", "won(III)I", "chance(IIII)J",
            "lasts(IIII)J", "weight(IIII)J", "heaviest(II)I", "game(I)I", "round(III)I",
            "match(III)I", "point(I)I", "back(I)I", "score(I)I", "likeliest(II)I", "count(I)I",
            "trace()J");

    public static void main(String[] args) throws IOException {
        constants();
        methods();
        nestedClasses();
        forbiddenWords();
        longLines();
        due.end();
    }

    private static void constants() {
        due.is("BAD", RungPlay.BAD, -1);
        due.is("STATE", RungPlay.STATE, -2);
        due.is("FULL", RungPlay.FULL, -3);
        due.is("NONE", RungPlay.NONE, -9);
        due.is("NO", RungPlay.NO, -1000000000000000000L);
        int shown = 0;
        for (Field field : RungPlay.class.getDeclaredFields()) {
            shown += Modifier.isPrivate(field.getModifiers()) ? 0 : 1;
        }
        due.is("fields shown", shown, 5);
    }

    private static void methods() {
        due.is("constructors", RungPlay.class.getDeclaredConstructors().length, 1);
        Set<String> shown = new TreeSet<>();
        Set<String> names = new TreeSet<>();
        for (Method method : RungPlay.class.getDeclaredMethods()) {
            if (Modifier.isPublic(method.getModifiers())) {
                shown.add(method.getName() + signature(method));
                names.add(method.getName());
            }
        }
        due.holds("the face " + shown, shown.equals(FACE));
        for (Method method : RungPlay.class.getDeclaredMethods()) {
            boolean isPrivate = Modifier.isPrivate(method.getModifiers());
            boolean isPublic = Modifier.isPublic(method.getModifiers());
            due.holds("shown: " + method, isPrivate || isPublic || method.isSynthetic());
            due.holds("a private one has a public name: " + method,
                    !isPrivate || !names.contains(method.getName()));
        }
    }

    private static String signature(Method method) {
        StringBuilder text = new StringBuilder("(");
        for (Class<?> type : method.getParameterTypes()) {
            text.append(type == int.class ? "I" : type == long.class ? "J" : type.getName());
        }
        Class<?> answer = method.getReturnType();
        return text.append(")").append(answer == int.class ? "I" : answer == long.class ? "J"
                : answer.getName()).toString();
    }

    private static void nestedClasses() {
        Class<?>[] nested = RungPlay.class.getDeclaredClasses();
        due.holds("at most twelve classes", nested.length <= 11);
        for (Class<?> inside : nested) {
            int flags = inside.getModifiers();
            due.holds("static: " + inside, Modifier.isStatic(flags));
            due.holds("not public: " + inside, !Modifier.isPublic(flags));
            due.holds("not protected: " + inside, !Modifier.isProtected(flags));
            for (Field field : inside.getDeclaredFields()) {
                due.holds("no static state: " + field, field.isSynthetic()
                        || !Modifier.isStatic(field.getModifiers())
                        || Modifier.isFinal(field.getModifiers()));
            }
        }
    }

    private static void forbiddenWords() throws IOException {
        String text = Files.readString(Path.of("src/main/java/RungPlay.java"));
        String[] words = {"throw", "throws", "try", "catch", "finally", "synchronized", "assert",
                "import", "package", "equals", "hashCode", "toString", "native", "volatile"};
        for (String word : words) {
            Matcher found = Pattern.compile("(?m)^[^*/]*\\b" + word + "\\b").matcher(text);
            due.holds("no '" + word + "'", !found.find());
        }
        due.holds("no lambda", !text.contains("->"));
        due.holds("no method reference", !text.contains("::"));
        due.holds("plain signs", text.chars().allMatch(c -> c == '\n' || c >= 32 && c < 127));
    }

    private static void longLines() throws IOException {
        for (String line : Files.readAllLines(Path.of("src/main/java/RungPlay.java"))) {
            due.holds("at most 100 signs: " + line, line.length() <= 100);
        }
    }
}
