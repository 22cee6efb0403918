import java.io.IOException;
import java.nio.file.Files;
import java.nio.file.Path;
import java.util.HashMap;
import java.util.Map;

/**
 * Runs tests that are named by their promise and by the sentence of the document that they look at. A name that the
 * document does not say fails, and so does a sentence of the document that no test is named by.
 */
final class Sentences {
    private static final Path DOCUMENT = Path.of("../shared/DOC.md");

    interface Body {
        void run(Due due);
    }

    private final Map<String, String> sections = new HashMap<>();
    private final Map<String, boolean[]> covered = new HashMap<>();
    private final boolean[] promised = new boolean[33];
    private int tests = 0;
    private int asked = 0;
    private int wrong = 0;

    Sentences() throws IOException {
        if (!Files.exists(DOCUMENT)) {
            System.out.println("no " + DOCUMENT + ": names of tests are not looked at");
            return;
        }
        String name = "";
        for (String line : Files.readString(DOCUMENT).split("\n")) {
            if (line.startsWith("## ")) {
                name = line.substring(3).replaceAll(":.*", "");
            } else if (!line.startsWith("```")) {
                sections.merge(name, line, (a, b) -> a + " " + b);
            }
        }
        // The signature ahead of a promise's words is no sentence.
        sections.replaceAll((section, text) -> plain(section.startsWith("Promise")
            ? text.replaceFirst("^\\s*`[^`]*`:", "") : text));
        sections.forEach((section, text) -> covered.put(section, new boolean[text.length()]));
    }

    private static String plain(String text) {
        return text.replaceAll("\\s+", " ").trim();
    }

    /** A test of a sentence that stands at the promise itself. */
    void promise(int number, String sentence, String edge, Body body) {
        test(number, "Promise " + number, sentence, edge, body);
    }

    /** A test of a sentence that stands in the Terms and what is behind them. */
    void terms(int number, String sentence, String edge, Body body) {
        test(number, "Terms", sentence, edge, body);
    }

    /** A test of a sentence of another part of the document, named by that part's heading. */
    void part(String section, String sentence, String edge, Body body) {
        test(0, section, sentence, edge, body);
    }

    private void test(int number, String section, String sentence, String edge, Body body) {
        String name = "promise " + number + ", " + section + ", \"" + sentence + "\": " + edge;
        tests++;
        promised[number] = true;
        cover(section, plain(sentence), name);
        Due due = new Due(name);
        try {
            body.run(due);
        } catch (RuntimeException e) {
            due.wrong++;
            System.out.println(name + ": threw " + e);
        }
        if (due.asked == 0) {
            due.wrong++;
            System.out.println(name + ": nothing was asked");
        }
        asked += due.asked;
        wrong += due.wrong;
    }

    private void cover(String section, String sentence, String name) {
        if (sections.isEmpty()) {
            return;
        }
        int from = sections.getOrDefault(section, "").indexOf(sentence);
        if (from < 0) {
            wrong++;
            System.out.println(name + ": the document does not say so");
            return;
        }
        for (int i = from; i < from + sentence.length(); i++) {
            covered.get(section)[i] = true;
        }
    }

    /** Fails, if a test has failed or a sentence has none. */
    void end() {
        sections.forEach(this::askForAll);
        for (int number = 1; number < promised.length; number++) {
            if (!promised[number]) {
                wrong++;
                System.out.println("no test of promise " + number);
            }
        }
        System.out.println(tests + " tests, " + asked + " answers looked at, " + wrong + " wrong");
        if (wrong != 0) {
            System.exit(1);
        }
    }

    private void askForAll(String section, String text) {
        StringBuilder left = new StringBuilder();
        for (int i = 0; i < text.length(); i++) {
            left.append(covered.get(section)[i] ? '|' : text.charAt(i));
        }
        for (String part : left.toString().replaceAll("==== I+\\.", "").split("\\|+")) {
            if (!part.isBlank()) {
                wrong++;
                System.out.println(section + ": no test is named by \"" + part.trim() + "\"");
            }
        }
    }

    /** What one test asks. */
    static final class Due {
        private final String name;
        private int asked = 0;
        private int wrong = 0;

        private Due(String name) {
            this.name = name;
        }

        void is(String call, long got, long want) {
            asked++;
            if (got != want) {
                wrong++;
                System.out.println(name + ": " + call + " answered " + got + ", due is " + want);
            }
        }

        void same(String what, String got, String want) {
            asked++;
            if (!got.equals(want)) {
                wrong++;
                System.out.println(name + ": " + what + " is " + got + ", due is " + want);
            }
        }

        /** How many REFUSALS -1, -2, -3, -4, -6 there were (and none of -5). */
        void refusals(LoadedForTheLane x, int nobody, int other, int state, int below, int room) {
            int[] want = {nobody, other, state, below, 0, room};
            for (int i = 0; i < want.length; i++) {
                is("count(" + (11 + i) + ")", x.count(11 + i), want[i]);
            }
        }

        /** A new object that has taken LOADS. */
        LoadedForTheLane loaded(String... texts) {
            LoadedForTheLane x = new LoadedForTheLane();
            for (String text : texts) {
                is("load of " + text, load(x, text), text.chars().filter(c -> c == ';').count());
            }
            return x;
        }

        /** As many LAYERS of one STATEMENT. */
        LoadedForTheLane layers(int many, String statement) {
            LoadedForTheLane x = new LoadedForTheLane();
            for (int i = 0; i < many; i++) {
                is("load of " + statement, load(x, statement), 1);
            }
            return x;
        }
    }

    static void tell(LoadedForTheLane x, String text) {
        for (int i = 0; i < text.length(); i++) {
            x.letter(text.charAt(i));
        }
    }

    static int load(LoadedForTheLane x, String text) {
        tell(x, text);
        return x.load();
    }

    static void rows(LoadedForTheLane x, int... numbers) {
        for (int number : numbers) {
            x.row(number);
        }
    }

    /** All that can be seen of an object without changing it for good (but how many REFUSALS there were). */
    static String seen(LoadedForTheLane x) {
        StringBuilder seen = new StringBuilder();
        for (int what = 0; what <= 9; what++) {
            seen.append(x.count(what)).append(' ');
        }
        for (int what = 0; what <= 3; what++) {
            int was = x.set(what, 1);
            x.set(what, was);
            seen.append("set").append(was).append(' ');
        }
        for (int layer = 0; layer < x.count(0); layer++) {
            for (int what = 0; what <= 7; what++) {
                seen.append(x.layer(layer, what)).append(' ');
            }
        }
        for (int way = 0; way < 2; way++) {
            for (int piece = 0; piece < x.count(1 + way); piece++) {
                for (int what = 0; what <= 2; what++) {
                    seen.append(x.piece(way, piece, what)).append(' ');
                }
            }
        }
        return seen.toString();
    }

    static String refusalsSeen(LoadedForTheLane x) {
        StringBuilder seen = new StringBuilder();
        for (int what = 11; what <= 16; what++) {
            seen.append(x.count(what)).append(' ');
        }
        return seen.toString();
    }

    static String times(int many, String text) {
        return text.repeat(many);
    }
}
