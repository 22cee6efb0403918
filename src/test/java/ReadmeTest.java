import java.io.IOException;
import java.lang.reflect.InvocationTargetException;
import java.lang.reflect.Method;
import java.lang.reflect.Modifier;
import java.nio.file.Files;
import java.nio.file.Path;
import java.util.Arrays;
import java.util.Set;
import java.util.TreeSet;
import java.util.regex.Matcher;
import java.util.regex.Pattern;

/** Goes through README.md's example line by line: each call answers what stands behind it, every call is shown. */
public final class ReadmeTest {
    private static final Pattern EXAMPLE = Pattern.compile("```java\n(.*?)```", Pattern.DOTALL);
    private static final Pattern TOLD = Pattern.compile("for \\(char c : \"(.*)\"\\.toCharArray\\(\\)\\) \\{");
    private static final Pattern CALL = Pattern.compile("wagon\\.(\\w+)\\(([-\\d, ]*)\\); +// (-?\\d+)\\b.*");
    private static final Set<String> PLAIN = Set.of("", "LoadedForTheLane wagon = new LoadedForTheLane();",
        "    wagon.letter(c);", "}");

    private static int wrong = 0;
    private static int asked = 0;

    private static void say(String what) {
        wrong++;
        System.out.println(what);
    }

    public static void main(String[] args) throws IOException, IllegalAccessException, InvocationTargetException {
        Matcher example = EXAMPLE.matcher(Files.readString(Path.of("README.md")));
        if (!example.find()) {
            say("README.md shows no example");
        } else {
            follow(example.group(1));
        }
        System.out.println(asked + " answers of README.md looked at, " + wrong + " wrong");
        if (wrong != 0) {
            System.exit(1);
        }
    }

    private static void follow(String example) throws IllegalAccessException, InvocationTargetException {
        LoadedForTheLane wagon = new LoadedForTheLane();
        Set<String> left = new TreeSet<>();
        for (Method m : LoadedForTheLane.class.getDeclaredMethods()) {
            if (Modifier.isPublic(m.getModifiers())) {
                left.add(m.getName());
            }
        }
        for (String line : example.split("\n")) {
            Matcher told = TOLD.matcher(line);
            Matcher call = CALL.matcher(line);
            if (told.matches()) {
                Sentences.tell(wagon, told.group(1));
                left.remove("letter");
            } else if (call.matches()) {
                asked++;
                long got = answer(wagon, call.group(1), call.group(2));
                if (got != Long.parseLong(call.group(3))) {
                    say(line + ": it answers " + got);
                }
                left.remove(call.group(1));
            } else if (!PLAIN.contains(line) && !line.startsWith("//")) {
                say("a line that isn't looked at: " + line);
            }
        }
        if (!left.isEmpty()) {
            say("not shown: " + left);
        }
    }

    private static long answer(LoadedForTheLane wagon, String name, String numbers)
        throws IllegalAccessException, InvocationTargetException {
        Object[] given = numbers.isEmpty() ? new Object[0]
            : Arrays.stream(numbers.split(", ")).map(Integer::valueOf).toArray();
        for (Method m : LoadedForTheLane.class.getDeclaredMethods()) {
            if (m.getName().equals(name) && m.getParameterCount() == given.length) {
                return ((Number) m.invoke(wagon, given)).longValue();
            }
        }
        throw new IllegalArgumentException("no call " + name + " of " + given.length + " numbers");
    }
}
