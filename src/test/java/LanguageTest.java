import java.io.IOException;
import java.lang.reflect.Modifier;
import java.nio.file.Files;
import java.nio.file.Path;
import java.util.Arrays;
import java.util.Set;
import java.util.TreeSet;
import java.util.regex.Matcher;
import java.util.regex.Pattern;

/** Looks at the program's text and face by those rules of LANGUAGE.md that can be seen without much. */
public final class LanguageTest {
    private static final String[] WORDS = {"throw", "throws", "try", "catch", "finally", "synchronized", "assert",
        "import", "package", "volatile", "transient", "native", "protected", "System\\.out", "Random", "Thread"};

    private static int wrong = 0;

    private static void say(String what) {
        wrong++;
        System.out.println(what);
    }

    public static void main(String[] args) throws IOException {
        String text = Files.readString(Path.of("src/main/java/LoadedForTheLane.java"));
        String code = text.replaceAll("/\\*[\\s\\S]*?\\*/", "").replaceAll("//[^\n]*", "");
        for (String word : WORDS) {
            if (Pattern.compile("\\b" + word + "\\b").matcher(code).find()) {
                say("a word that the language leaves out: " + word);
            }
        }
        if (code.contains("->") || code.contains("::")) {
            say("a lambda or a method reference");
        }
        for (char sign : text.toCharArray()) {
            if (sign > 126) {
                say("a sign above 126");
            }
        }
        face();
        methods(code);
        if (wrong != 0) {
            System.exit(1);
        }
        System.out.println("the rules looked at are kept");
    }

    private static void face() {
        Class<?> program = LoadedForTheLane.class;
        long open = Arrays.stream(program.getDeclaredMethods()).filter(m -> Modifier.isPublic(m.getModifiers())).count();
        if (open != 31) {
            say("public methods: " + open);
        }
        Arrays.stream(program.getDeclaredMethods())
            .filter(m -> !Modifier.isPublic(m.getModifiers()) && !Modifier.isPrivate(m.getModifiers()) && !m.isSynthetic())
            .forEach(m -> say("neither public nor private: " + m));
        Arrays.stream(program.getDeclaredFields()).filter(f -> !Modifier.isPrivate(f.getModifiers()))
            .forEach(f -> say("not private: " + f));
        Arrays.stream(program.getDeclaredClasses()).filter(c -> !Modifier.isStatic(c.getModifiers()))
            .forEach(c -> say("not static: " + c));
    }

    private static void methods(String code) {
        Set<String> open = new TreeSet<>();
        Matcher m = Pattern.compile("public (?:int|long) (\\w+)\\(").matcher(code);
        while (m.find()) {
            open.add(m.group(1));
        }
        m = Pattern.compile("private (?:static )?[\\w\\[\\]]+ (\\w+)\\(([^)]*)\\) \\{").matcher(code);
        while (m.find()) {
            if (open.contains(m.group(1))) {
                say("a private method with a public one's name: " + m.group(1));
            }
            if (m.group(2).split(",").length > 7) {
                say("too many parameters: " + m.group(1));
            }
        }
        int since = 0;
        String[] lines = code.split("\n");
        for (int i = 0; i < lines.length; i++) {
            if (lines[i].matches(" +(public|private) .*\\) \\{")) {
                since = i;
            }
            if (lines[i].matches(" {4}( {4})?\\}") && i - since > 60) {
                since = i;
                say("a long method before line " + i + " of the code");
            }
        }
    }
}
