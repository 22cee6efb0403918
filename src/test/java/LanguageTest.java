import java.io.IOException;
import java.lang.reflect.Field;
import java.lang.reflect.Method;
import java.lang.reflect.Modifier;
import java.nio.file.Files;
import java.nio.file.Path;
import java.util.ArrayList;
import java.util.Arrays;
import java.util.HashMap;
import java.util.List;
import java.util.Map;
import java.util.Set;
import java.util.TreeSet;
import java.util.regex.Matcher;
import java.util.regex.Pattern;

/** Looks at the program's text and face by those rules of LANGUAGE.md that can be seen without much. */
public final class LanguageTest {
    private static final String[] WORDS = {"throw", "throws", "try", "catch", "finally", "synchronized", "assert",
        "import", "package", "volatile", "transient", "native", "protected", "System\\.out", "Random", "Thread"};
    private static final Set<String> STATIC_TYPES = Set.of("int", "long", "boolean", "char", "String", "int[]", "long[]",
        "char[]", "byte[]");
    private static final Path DOCUMENT = Path.of("../shared/DOC.md");
    private static final int DEEPEST = 8;
    private static final int LONGEST = 60;
    private static final int MOST_CLASSES = 12;
    private static final int MOST_FIELDS = 20;
    private static final int MOST_PARAMETERS = 7;

    private static int wrong = 0;

    private static void say(String what) {
        wrong++;
        System.out.println(what);
    }

    public static void main(String[] args) throws IOException {
        String text = Files.readString(Path.of("src/main/java/LoadedForTheLane.java"));
        String code = text.replaceAll("/\\*[\\s\\S]*?\\*/", "").replaceAll("//[^\n]*", "");
        words(text, code);
        face();
        types();
        parameters();
        methods(code);
        if (wrong != 0) {
            System.exit(1);
        }
        System.out.println("the rules looked at are kept");
    }

    private static void words(String text, String code) {
        for (String word : WORDS) {
            if (Pattern.compile("\\b" + word + "\\b").matcher(code).find()) {
                say("a word that the language leaves out: " + word);
            }
        }
        if (code.contains("->") || code.contains("::")) {
            say("a lambda or a method reference");
        }
        for (char sign : text.toCharArray()) {
            if (sign > 126) {
                say("a sign above 126");
            }
        }
    }

    /** Rule 1: the document's face and nothing else. */
    private static void face() throws IOException {
        Class<?> program = LoadedForTheLane.class;
        if (program.getModifiers() != (Modifier.PUBLIC | Modifier.FINAL)) {
            say("the class is not public and final");
        }
        Set<String> is = new TreeSet<>();
        for (Method m : program.getDeclaredMethods()) {
            if (Modifier.isPublic(m.getModifiers())) {
                is.add(m.toString().replaceAll("public (final )?|LoadedForTheLane\\.", ""));
            } else if (!Modifier.isPrivate(m.getModifiers()) && !m.isSynthetic()) {
                say("neither public nor private: " + m);
            }
        }
        if (Files.exists(DOCUMENT) && !is.equals(faceTold())) {
            say("the face is " + is + ", due is " + faceTold());
        }
        if (program.getConstructors().length != 1 || program.getDeclaredConstructors().length != 1
            || program.getConstructors()[0].getParameterCount() != 0) {
            say("not the one constructor");
        }
        Arrays.stream(program.getDeclaredFields()).filter(f -> !Modifier.isPrivate(f.getModifiers()))
            .forEach(f -> say("not private: " + f));
    }

    private static Set<String> faceTold() throws IOException {
        Set<String> told = new TreeSet<>();
        Matcher m = Pattern.compile("public (int|long) (\\w+)\\((.*)\\);").matcher(Files.readString(DOCUMENT));
        while (m.find()) {
            told.add(m.group(1) + " " + m.group(2) + "(" + m.group(3).replaceAll("(int|long) \\w+", "$1").replace(", ", ",") + ")");
        }
        return told;
    }

    /** Rules 2, 3, 5, 11: classes and fields. */
    private static void types() {
        Class<?>[] inside = LoadedForTheLane.class.getDeclaredClasses();
        if (inside.length + 1 > MOST_CLASSES) {
            say("too many classes: " + (inside.length + 1));
        }
        List<Class<?>> all = new ArrayList<>(Arrays.asList(inside));
        all.add(LoadedForTheLane.class);
        for (Class<?> one : all) {
            if (one != LoadedForTheLane.class
                && (!Modifier.isStatic(one.getModifiers()) || Modifier.isPublic(one.getModifiers()))) {
                say("not static, or public: " + one);
            }
            int fields = 0;
            for (Field f : one.getDeclaredFields()) {
                if (Modifier.isStatic(f.getModifiers())) {
                    if (!Modifier.isFinal(f.getModifiers()) || !STATIC_TYPES.contains(f.getType().getSimpleName())) {
                        say("a static field of that kind: " + f);
                    }
                } else {
                    fields++;
                }
            }
            if (fields > MOST_FIELDS) {
                say("too many fields: " + one);
            }
        }
    }

    private static void parameters() {
        List<Class<?>> all = new ArrayList<>(Arrays.asList(LoadedForTheLane.class.getDeclaredClasses()));
        all.add(LoadedForTheLane.class);
        for (Class<?> one : all) {
            for (Method m : one.getDeclaredMethods()) {
                if (m.getParameterCount() > MOST_PARAMETERS) {
                    say("too many parameters: " + m);
                }
            }
        }
    }

    // ---- methods: names, length, depth

    private static final String[][] RECEIVERS = {
        {"(?:letters)\\.", "Letters"}, {"(?:told)\\.", "Row"}, {"(?:wagon|trial|imaged)\\.", "Wagon"},
        {"ways\\[\\w+\\]\\.", "Way"}, {"LayerKinds\\.", "LayerKinds"}, {"PieceKinds\\.", "PieceKinds"}};

    private static void methods(String code) {
        Set<String> open = new TreeSet<>();
        Matcher m = Pattern.compile("public (?:int|long) (\\w+)\\(").matcher(code);
        while (m.find()) {
            open.add(m.group(1));
        }
        Map<String, String> bodies = new HashMap<>();
        String of = "LoadedForTheLane";
        String name = null;
        for (String line : code.split("\n")) {
            Matcher inside = Pattern.compile("private static final class (\\w+) \\{").matcher(line);
            Matcher head = Pattern.compile(" +(public|private) (?:static )?[\\w\\[\\]]+ (\\w+)\\(.*\\{").matcher(line);
            if (inside.find()) {
                of = inside.group(1);
            } else if (head.matches()) {
                name = of + "." + head.group(2);
                bodies.put(name, "");
                if (head.group(1).equals("private") && open.contains(head.group(2))) {
                    say("a private method with a public one's name: " + head.group(2));
                }
            } else if (name != null && !line.matches(" {4}( {4})?\\}")) {
                bodies.merge(name, line + "\n", String::concat);
            } else {
                name = null;
            }
        }
        bodies.forEach((which, body) -> {
            if (body.split("\n").length > LONGEST) {
                say("a long method: " + which);
            }
        });
        depths(bodies);
    }

    private static void depths(Map<String, String> bodies) {
        Map<String, Set<String>> calls = new HashMap<>();
        bodies.forEach((name, body) -> calls.put(name, callsIn(name, body)));
        int deepest = 0;
        for (String name : calls.keySet()) {
            deepest = Math.max(deepest, depth(name, calls, new ArrayList<>()));
        }
        if (deepest > DEEPEST) {
            say("calls go " + deepest + " deep");
        }
    }

    /** How deep calls go from a method on, what calls itself left out. */
    private static int depth(String name, Map<String, Set<String>> calls, List<String> above) {
        if (above.contains(name)) {
            return 0;
        }
        List<String> opened = new ArrayList<>(above);
        opened.add(name);
        int deepest = opened.size();
        for (String called : calls.getOrDefault(name, Set.of())) {
            deepest = Math.max(deepest, depth(called, calls, opened));
        }
        return deepest;
    }

    /** Whom a method calls: by the name ahead of the dot, or in its own class. The library's count as well. */
    private static Set<String> callsIn(String name, String body) {
        Set<String> calls = new TreeSet<>();
        String left = body;
        for (String[] receiver : RECEIVERS) {
            Matcher m = Pattern.compile("(?:\\b\\w+\\.)?" + receiver[0] + "(\\w+)\\(").matcher(left);
            while (m.find()) {
                calls.add(receiver[1] + "." + m.group(1));
            }
            left = m.replaceAll("(");
        }
        // What is left with a dot ahead is the library's, or of the same class by another object.
        Matcher m = Pattern.compile("(?:(\\w+)\\.)?\\b([a-z]\\w*)\\(").matcher(left);
        String of = name.substring(0, name.indexOf('.'));
        while (m.find()) {
            if (m.group(1) != null) {
                calls.add(m.group(1) + "." + m.group(2));
            } else if (!Set.of("if", "for", "while", "switch", "return").contains(m.group(2))) {
                calls.add(of + "." + m.group(2));
            }
        }
        return calls;
    }
}
