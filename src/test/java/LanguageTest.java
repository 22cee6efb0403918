import java.io.IOException;
import java.lang.reflect.Field;
import java.lang.reflect.Method;
import java.lang.reflect.Modifier;
import java.nio.file.Files;
import java.nio.file.Path;
import java.util.ArrayList;
import java.util.Arrays;
import java.util.HashMap;
import java.util.List;
import java.util.Map;
import java.util.Set;
import java.util.TreeSet;
import java.util.regex.Matcher;
import java.util.regex.Pattern;

/**
 * Looks at the program's text and face by those rules of LANGUAGE.md that can be seen there. AnyCallTest looks at those
 * that show when it runs.
 */
public final class LanguageTest {
    private static final String[] WORDS = {"throw", "throws", "try", "catch", "finally", "synchronized", "assert",
        "import", "package", "volatile", "transient", "native", "protected"};
    /** Rule 4: the classes of the library, and what may be asked of them or of arrays. */
    private static final Set<String> LIBRARY = Set.of("String", "StringBuilder", "Integer", "Long", "Math", "System",
        "Arrays", "ArrayList", "List", "Iterator", "Iterable", "Comparable");
    private static final Set<String> LIBRARY_CALLS = Set.of("length", "charAt", "isEmpty", "equals", "indexOf",
        "toCharArray", "append", "setCharAt", "setLength", "deleteCharAt", "reverse", "toString", "add", "get", "set",
        "remove", "size", "clear", "clone");
    private static final Set<String> LIBRARY_FUNCTIONS = Set.of("compare", "max", "min", "abs", "bitCount", "floorDiv",
        "floorMod", "arraycopy", "copyOf", "copyOfRange", "fill", "of");
    private static final Pattern COUNTED = Pattern.compile(
        "for \\(int (\\w+) = [^;]+; \\1 (?:<|<=|>|>=) [^;]+; \\1(?:\\+\\+|--| \\+= [1-9])\\) \\{");
    private static final Set<String> STATIC_TYPES = Set.of("int", "long", "boolean", "char", "String", "int[]", "long[]",
        "char[]", "byte[]");
    private static final Path DOCUMENT = Path.of("../shared/DOC.md");
    private static final int DEEPEST = 8;
    private static final int LONGEST = 60;
    private static final int MOST_CLASSES = 12;
    private static final int MOST_FIELDS = 20;
    private static final int MOST_PARAMETERS = 7;

    private static int wrong = 0;

    private static void say(String what) {
        wrong++;
        System.out.println(what);
    }

    public static void main(String[] args) throws IOException {
        String text = Files.readString(Path.of("src/main/java/LoadedForTheLane.java"));
        // Texts are told empty, so that no sign in them is taken for the program's.
        String code = text.replaceAll("/\\*[\\s\\S]*?\\*/", "").replaceAll("//[^\n]*", "")
            .replaceAll("\"[^\"\n]*\"", "\"\"").replaceAll("'[^'\n]+'", "' '");
        words(text, code);
        face();
        types();
        kindsOfTypes();
        parameters();
        library(code);
        statics(code);
        loops(code);
        texts(code);
        methods(code);
        if (wrong != 0) {
            System.exit(1);
        }
        System.out.println("the rules looked at are kept");
    }

    private static void words(String text, String code) {
        for (String word : WORDS) {
            if (Pattern.compile("\\b" + word + "\\b").matcher(code).find()) {
                say("a word that the language leaves out: " + word);
            }
        }
        if (code.contains("->") || code.contains("::")) {
            say("a lambda or a method reference");
        }
        for (char sign : text.toCharArray()) {
            if (sign > 126) {
                say("a sign above 126");
            }
        }
    }

    /** Rule 1: the document's face and nothing else. */
    private static void face() throws IOException {
        Class<?> program = LoadedForTheLane.class;
        if (program.getModifiers() != (Modifier.PUBLIC | Modifier.FINAL)) {
            say("the class is not public and final");
        }
        Set<String> is = new TreeSet<>();
        for (Method m : program.getDeclaredMethods()) {
            if (Modifier.isPublic(m.getModifiers())) {
                is.add(m.toString().replaceAll("public (final )?|LoadedForTheLane\\.", ""));
            } else if (!Modifier.isPrivate(m.getModifiers()) && !m.isSynthetic()) {
                say("neither public nor private: " + m);
            }
        }
        if (Files.exists(DOCUMENT) && !is.equals(faceTold())) {
            say("the face is " + is + ", due is " + faceTold());
        }
        if (program.getConstructors().length != 1 || program.getDeclaredConstructors().length != 1
            || program.getConstructors()[0].getParameterCount() != 0) {
            say("not the one constructor");
        }
        Arrays.stream(program.getDeclaredFields()).filter(f -> !Modifier.isPrivate(f.getModifiers()))
            .forEach(f -> say("not private: " + f));
    }

    private static Set<String> faceTold() throws IOException {
        Set<String> told = new TreeSet<>();
        Matcher m = Pattern.compile("public (int|long) (\\w+)\\((.*)\\);").matcher(Files.readString(DOCUMENT));
        while (m.find()) {
            told.add(m.group(1) + " " + m.group(2) + "(" + m.group(3).replaceAll("(int|long) \\w+", "$1").replace(", ", ",") + ")");
        }
        return told;
    }

    /** Rules 2, 3, 5, 11: classes and fields. */
    private static void types() {
        Class<?>[] inside = LoadedForTheLane.class.getDeclaredClasses();
        if (inside.length + 1 > MOST_CLASSES) {
            say("too many classes: " + (inside.length + 1));
        }
        List<Class<?>> all = new ArrayList<>(Arrays.asList(inside));
        all.add(LoadedForTheLane.class);
        for (Class<?> one : all) {
            if (one != LoadedForTheLane.class
                && (!Modifier.isStatic(one.getModifiers()) || Modifier.isPublic(one.getModifiers()))) {
                say("not static, or public: " + one);
            }
            int fields = 0;
            for (Field f : one.getDeclaredFields()) {
                if (Modifier.isStatic(f.getModifiers())) {
                    if (!Modifier.isFinal(f.getModifiers()) || !STATIC_TYPES.contains(f.getType().getSimpleName())) {
                        say("a static field of that kind: " + f);
                    }
                } else {
                    fields++;
                }
            }
            if (fields > MOST_FIELDS) {
                say("too many fields: " + one);
            }
        }
    }

    /** Rules 2, 3, 6: each class has a name, each type is one that the language has. */
    private static void kindsOfTypes() {
        Class<?>[] all = LoadedForTheLane.class.getNestMembers();
        for (Class<?> one : all) {
            if (one.isAnonymousClass() || one.isLocalClass()) {
                say("a class without a name, or inside a method: " + one);
            }
            for (Field f : one.getDeclaredFields()) {
                type(f.getType(), all, f.toString());
            }
            for (Method m : one.getDeclaredMethods()) {
                type(m.getReturnType(), all, m.toString());
                for (Class<?> parameter : m.getParameterTypes()) {
                    type(parameter, all, m.toString());
                }
                if (Set.of("equals", "hashCode", "toString", "finalize").contains(m.getName())) {
                    say("of its own: " + m);
                }
            }
        }
    }

    private static void type(Class<?> type, Class<?>[] own, String where) {
        Class<?> of = type;
        int dimensions = 0;
        for (; of.isArray(); dimensions++) {
            of = of.getComponentType();
        }
        boolean isOwn = Arrays.asList(own).contains(of);
        boolean isLibrary = LIBRARY.contains(of.getSimpleName());
        if (!(of.isPrimitive() && dimensions <= 2 || isOwn && dimensions <= 1 || isLibrary && dimensions == 0)) {
            say("a type that the language leaves out: " + where);
        }
    }

    /** Rule 4: what the library is asked. Rule 12: what makes objects. */
    private static void library(String code) {
        Set<String> own = new TreeSet<>();
        for (Class<?> one : LoadedForTheLane.class.getNestMembers()) {
            own.add(one.getSimpleName());
        }
        Matcher name = Pattern.compile("\\b[A-Z]\\w*[a-z]\\w*").matcher(code);
        while (name.find()) {
            if (!own.contains(name.group()) && !LIBRARY.contains(name.group())) {
                say("a class that is none of the library's: " + name.group());
            }
        }
        Set<String> methods = new TreeSet<>();
        for (Class<?> one : LoadedForTheLane.class.getNestMembers()) {
            Arrays.stream(one.getDeclaredMethods()).forEach(m -> methods.add(m.getName()));
        }
        Matcher call = Pattern.compile("(\\w+|[)\\]\"])\\.(\\w+)(\\(?)").matcher(code);
        while (call.find()) {
            boolean isLibrary = LIBRARY.contains(call.group(1));
            boolean isCall = !call.group(3).isEmpty();
            Set<String> may = isLibrary ? LIBRARY_FUNCTIONS : methods;
            if (isLibrary && !isCall || isCall && !may.contains(call.group(2))
                && (isLibrary || !LIBRARY_CALLS.contains(call.group(2)))) {
                say("not the library's: " + call.group());
            }
        }
        for (String line : code.split("\n")) {
            if (line.contains("new ") && !line.matches(" +private final .*;")) {
                say("an object made but with the object itself: " + line.trim());
            }
        }
    }

    /** Rule 5: no element of a static array is changed, none is handed out. */
    private static void statics(String code) {
        Matcher array = Pattern.compile("static final \\w+\\[\\] (\\w+) = (.*)").matcher(code);
        while (array.find()) {
            if (!array.group(2).matches("\\{[-\\d, ]*\\};")) {
                say("not written out: " + array.group(1));
            }
            Matcher use = Pattern.compile("\\b" + array.group(1) + "\\b(.*)").matcher(code);
            while (use.find()) {
                if (!use.group(1).matches(" = \\{.*|\\.clone\\(\\);|\\.length.*|\\[\\w+\\](?! *([-+*/%&|^]|<<|>>)?=[^=])(?!\\+\\+|--).*")) {
                    say("a constant array is changed or handed out: " + use.group());
                }
            }
        }
    }

    /** Rule 9: each loop counts against a bound. (While and do would need another look: there are none.) */
    private static void loops(String code) {
        if (Pattern.compile("\\b(while|do)\\b").matcher(code).find()) {
            say("a loop whose end isn't looked at");
        }
        Matcher loop = Pattern.compile("\\bfor \\(.*").matcher(code);
        while (loop.find()) {
            if (!COUNTED.matcher(loop.group()).matches()) {
                say("a loop that doesn't count: " + loop.group());
            }
        }
    }

    /** Rules 6, 10: texts are not joined by + and not compared by ==. */
    private static void texts(String code) {
        Set<String> texts = new TreeSet<>();
        Matcher name = Pattern.compile("\\bString (\\w+)\\b(?!\\()").matcher(code);
        while (name.find()) {
            texts.add(name.group(1));
        }
        for (String text : texts) {
            if (Pattern.compile("\\b" + text + " ([-+!=]=|\\+)|([!=]=|\\+) " + text + "\\b(?!\\.)").matcher(code).find()) {
                say("a text joined by + or compared by ==: " + text);
            }
        }
        if (Pattern.compile("\"\" *(\\+|[!=]=)|(\\+|[!=]=) *\"\"").matcher(code).find()) {
            say("a text joined by + or compared by ==");
        }
        if (code.indexOf('\\') >= 0) {
            say("a sign told by a backslash");
        }
    }

    private static void parameters() {
        List<Class<?>> all = new ArrayList<>(Arrays.asList(LoadedForTheLane.class.getDeclaredClasses()));
        all.add(LoadedForTheLane.class);
        for (Class<?> one : all) {
            for (Method m : one.getDeclaredMethods()) {
                if (m.getParameterCount() > MOST_PARAMETERS) {
                    say("too many parameters: " + m);
                }
            }
        }
    }

    // ---- methods: names, length, depth

    private static final String[][] RECEIVERS = {
        {"(?:letters)\\.", "Letters"}, {"(?:told)\\.", "Row"}, {"(?:wagon|trial|imaged)\\.", "Wagon"},
        {"ways\\[\\w+\\]\\.", "Way"}, {"LayerKinds\\.", "LayerKinds"}, {"PieceKinds\\.", "PieceKinds"}};

    private static void methods(String code) {
        Set<String> open = new TreeSet<>();
        Matcher m = Pattern.compile("public (?:int|long) (\\w+)\\(").matcher(code);
        while (m.find()) {
            open.add(m.group(1));
        }
        Map<String, String> bodies = new HashMap<>();
        String of = "LoadedForTheLane";
        String name = null;
        for (String line : code.split("\n")) {
            Matcher inside = Pattern.compile("private static final class (\\w+) \\{").matcher(line);
            Matcher head = Pattern.compile(" +(public|private) (?:static )?[\\w\\[\\]]+ (\\w+)\\(.*\\{").matcher(line);
            if (inside.find()) {
                of = inside.group(1);
            } else if (head.matches()) {
                name = of + "." + head.group(2);
                bodies.put(name, "");
                if (head.group(1).equals("private") && open.contains(head.group(2))) {
                    say("a private method with a public one's name: " + head.group(2));
                }
            } else if (name != null && !line.matches(" {4}( {4})?\\}")) {
                bodies.merge(name, line + "\n", String::concat);
            } else {
                name = null;
            }
        }
        bodies.forEach((which, body) -> {
            if (body.split("\n").length > LONGEST) {
                say("a long method: " + which);
            }
        });
        depths(bodies);
    }

    private static void depths(Map<String, String> bodies) {
        Map<String, Set<String>> calls = new HashMap<>();
        bodies.forEach((name, body) -> calls.put(name, callsIn(name, body)));
        int deepest = 0;
        for (String name : calls.keySet()) {
            deepest = Math.max(deepest, depth(name, calls, new ArrayList<>()));
        }
        if (deepest > DEEPEST) {
            say("calls go " + deepest + " deep");
        }
    }

    /** How deep calls go from a method on. Rule 8 asks a guard of recursion: there is none, so it needs none. */
    private static int depth(String name, Map<String, Set<String>> calls, List<String> above) {
        if (above.contains(name)) {
            say("recursion: " + name);
            return 0;
        }
        List<String> opened = new ArrayList<>(above);
        opened.add(name);
        int deepest = opened.size();
        for (String called : calls.getOrDefault(name, Set.of())) {
            deepest = Math.max(deepest, depth(called, calls, opened));
        }
        return deepest;
    }

    /** Whom a method calls: by the name ahead of the dot, or in its own class. The library's count as well. */
    private static Set<String> callsIn(String name, String body) {
        Set<String> calls = new TreeSet<>();
        String left = body;
        for (String[] receiver : RECEIVERS) {
            Matcher m = Pattern.compile("(?:\\b\\w+\\.)?" + receiver[0] + "(\\w+)\\(").matcher(left);
            while (m.find()) {
                calls.add(receiver[1] + "." + m.group(1));
            }
            left = m.replaceAll("(");
        }
        // What is left with a dot ahead is the library's, or of the same class by another object.
        Matcher m = Pattern.compile("(?:(\\w+)\\.)?\\b([a-z]\\w*)\\(").matcher(left);
        String of = name.substring(0, name.indexOf('.'));
        while (m.find()) {
            if (m.group(1) != null) {
                calls.add(m.group(1) + "." + m.group(2));
            } else if (!Set.of("if", "for", "while", "switch", "return").contains(m.group(2))) {
                calls.add(of + "." + m.group(2));
            }
        }
        return calls;
    }
}
