import java.lang.reflect.Method;
import java.lang.reflect.Modifier;
import java.util.ArrayList;
import java.util.List;

/** What stands ahead of the Terms and behind the promises: what it is, the face, what is not promised. */
final class WholeSentences {
    private static final String WHAT = "What it is";
    private static final String NOT = "Not promised";

    private final Sentences of;

    WholeSentences(Sentences of) {
        this.of = of;
    }

    void all() {
        title();
        load();
        home();
        asIf();
        time();
        toldAndByLot();
        use();
        face();
        notPromised();
    }

    /**
     * The one wagon of this page. LOADS 420, 220, 70 of BINDINGS 100, 120, 25; WAY 0 of 6 MINUTES holds by 22 (the top
     * LAYER on the SLOPE), WAY 1 of 7 slips at its BEND (126 of 100), until there are two ROPES.
     */
    private static LoadedForTheLane wagon(Sentences.Due due) {
        return due.loaded("yl200+0;yb152-1;yw051+0;", "w0s123;w0d022;w0j021;", "w1b154;w1r052;w1g101;");
    }

    private interface Story {
        void tell(LoadedForTheLane x, Sentences.Due due);
    }

    private void what(String words, Story story) {
        of.part(WHAT, words, "of the wagon of this page", due -> story.tell(wagon(due), due));
    }

    private void title() {
        of.part("", "# LoadedForTheLane", "the name of the class, in no package", due ->
            due.same("name", LoadedForTheLane.class.getName(), "LoadedForTheLane"));
        of.part(WHAT, "Loaded for the lane: a wagon told in letters,", "letter by letter, then at once", due -> {
            LoadedForTheLane x = new LoadedForTheLane();
            due.is("y", x.letter('y'), 1);
            Sentences.tell(x, "l200+0;");
            due.is("count(0) of letters alone", x.count(0), 0);
            due.is("load()", x.load(), 1);
            due.is("count(0)", x.count(0), 1);
        });
    }

    private void load() {
        what("layers of sheaves of kinds one upon the other,", (x, due) -> {
            int[][] want = {{0, 20, 0, 0, 200, 100, 9, 420}, {1, 15, 2, -1, 150, 120, 9, 220}, {3, 5, 1, 0, 70, 25, 8, 70}};
            for (int layer = 0; layer < 3; layer++) {
                for (int what = 0; what < 8; what++) {
                    due.is("layer(" + layer + ", " + what + ")", x.layer(layer, what), want[layer][what]);
                }
            }
        });
        what("out over the rail,", (x, due) -> {
            due.is("out(1, 9)", x.out(1, 9), 2);
            due.is("out(1, 0)", x.out(1, 0), 9);
            due.is("WIDTH", x.count(4), 98);
        });
        what("leaning,", (x, due) -> due.is("LEAN of the second", x.layer(1, 3), -1));
        what("ropes,", (x, due) -> {
            due.is("set(0, 2)", x.set(0, 2), 0);
            due.is("count(7)", x.count(7), 2);
        });
        what("how high, how wide, how heavy,", (x, due) -> {
            due.is("HEIGHT", x.count(3), 26);
            due.is("WIDTH", x.count(4), 100);
            due.is("all WEIGHT", x.count(5), 420);
        });
    }

    private void home() {
        what("two ways home of pieces of kinds,", (x, due) -> {
            int[][] want = {{0, 12, 3}, {1, 2, 2}, {2, 2, 1}, {3, 15, 4}, {4, 5, 2}, {5, 10, 1}};
            for (int i = 0; i < 6; i++) {
                for (int what = 0; what < 3; what++) {
                    due.is("piece(" + i / 3 + ", " + i % 3 + ", " + what + ")", x.piece(i / 3, i % 3, what), want[i][what]);
                }
            }
            due.is("home(0)", x.home(0), 6);
            due.is("home(1)", x.home(1), -9);
        });
        what("slopes, dips, jerks, bends, a branch, a gate;", (x, due) -> {
            int[][] want = {{21, 5, 3}, {14, 7, 2}, {4, 4, 2}, {126, 74, 22}, {0, 0, 0}, {0, 0, 0}};
            for (int i = 0; i < 6; i++) {
                for (int layer = 0; layer < 3; layer++) {
                    due.is("shift(" + i / 3 + ", " + i % 3 + ", " + layer + ")", x.shift(i / 3, i % 3, layer), want[i][layer]);
                }
            }
        });
        what("which layer holds what,", (x, due) -> {
            for (int piece = 0; piece < 3; piece++) {
                due.is("fell(0, " + piece + ")", x.fell(0, piece), 0);
                due.is("fell(1, " + piece + ")", x.fell(1, piece), piece == 0 ? 1 : 0);
            }
        });
        what("where it slips and at which layer,", (x, due) -> {
            due.is("slips(0, 0)", x.slips(0, 0), -9);
            due.is("slips(0, 1)", x.slips(0, 1), -9);
            due.is("slips(1, 0)", x.slips(1, 0), 0);
            due.is("slips(1, 1)", x.slips(1, 1), 0);
            due.is("margin(0)", x.margin(0), 22);
            due.is("margin(1)", x.margin(1), -26);
        });
        what("which way,", (x, due) -> {
            due.is("WAY 0 alone holds", x.which(), 0);
            x.set(0, 2);
            due.is("6 and 7 MINUTES", x.which(), 0);
            due.is("two more of WAY 0", Sentences.load(x, "w0s102;"), 1);
            due.is("8 and 7", x.which(), 1);
        });
        what("which layer it was that slipped,", (x, due) -> {
            due.is("whose(1, 0)", x.whose(1, 0), 0);
            due.is("whose(0, 0)", x.whose(0, 0), -9);
            x.out(1, 3);
            due.is("at the GATE", x.whose(1, 2), 1);
        });
    }

    private void asIf() {
        what("how many layers hold,", (x, due) -> {
            due.is("high(0)", x.high(0), 3);
            // Two of them: 350 * 15 by 50 is 105; one: 60.
            due.is("high(1)", x.high(1), 1);
        });
        what("one more or not,", (x, due) -> {
            due.is("more(0)", x.more(0), 1);
            due.is("more(1)", x.more(1), 0);
        });
        what("how far out a layer may be,", (x, due) -> {
            due.is("nothing mends the BEND", x.farOut(1, 2), -9);
            due.is("no BEND, no GATE", x.farOut(0, 2), 9);
            x.set(0, 2);
            due.is("the GATE's 100", x.farOut(1, 2), 2);
        });
        what("how it should lean,", (x, due) -> {
            // The DIP leaves 23 at most: reached with -3, -2, -1.
            due.is("leaning(0)", x.leaning(0), -3);
            due.is("margin(0)", x.margin(0), 22);
        });
        what("how many ropes,", (x, due) -> {
            due.is("enough(0)", x.enough(0), 0);
            due.is("enough(1)", x.enough(1), 2);
        });
    }

    private void time() {
        what("how quick to pitch for a loader,", (x, due) -> {
            due.is("14 MINUTES by 3", x.pitching(3), 14);
            due.is("5 MINUTES by 8, by 9", x.quick(0), 8);
            due.is("it slips", x.quick(1), -9);
            x.set(0, 2);
            due.is("130 of 126: two lie badly by 5", x.quick(1), 4);
        });
        what("rounds of wagons till an hour,", (x, due) -> {
            // One is unloaded at 34 and 74, the other at 48.
            int[] at = {33, 34, 47, 48, 60};
            int[] one = {0, 40, 40, 40, 40};
            int[] two = {0, 40, 40, 80, 80};
            for (int i = 0; i < at.length; i++) {
                due.is("rounds(0, 1, " + at[i] + ")", x.rounds(0, 1, at[i]), one[i]);
                due.is("rounds(0, 2, " + at[i] + ")", x.rounds(0, 2, at[i]), two[i]);
            }
            due.is("it slips", x.rounds(1, 1, 60), -3);
        });
        what("what one more wagon is worth,", (x, due) -> {
            due.is("till 47", x.worth(0, 1, 47), 0);
            due.is("till 48", x.worth(0, 1, 48), 40);
        });
        what("thunder by odds,", (x, due) -> {
            due.is("4 to the 6th", x.thunder(0, 2, 0), 4096);
            due.is("5 to the 6th", x.thunder(0, 2, 1), 15625);
        });
    }

    private void toldAndByLot() {
        what("what held loads tell of the binding,", (x, due) -> {
            Sentences.rows(x, 20, 1, 4, 0);
            due.is("20 times c is 60 or more", x.boundBy(60, 0), 3);
            due.is("4 times c is below 60", x.boundBy(60, 1), 14);
        });
        what("told ways looked at,", (x, due) -> {
            Sentences.rows(x, 0, 0, 99);
            due.is("all so", x.judge(1), -9);
            Sentences.rows(x, 0, 99);
            due.is("it slips with one, too", x.judge(1), 1);
        });
        what("ways by lot,", (x, due) -> {
            due.is("WAY 0 holds them all", x.lots(0, 30, 7), 30);
            due.is("WAY 1 without ROPES", x.lots(1, 30, 7), 0);
            x.set(0, 5);
            // The third draws OUTS of 2, 1, 2, the others a greater one.
            due.is("two", x.lots(1, 2, 7), 0);
            due.is("three", x.lots(1, 3, 7), 1);
            due.is("thirty", x.lots(1, 30, 7), 1);
        });
        what("an image.", (x, due) -> {
            String was = Sentences.seen(x);
            due.is("image()", x.image(), 3);
            due.is("off()", x.off(), 2);
            due.is("on()", x.on(), 3);
            due.same("all", Sentences.seen(x), was);
        });
    }

    private void use() {
        String use = "An object is used for at most 512 calls after it has been made;";
        of.part(WHAT, use, "the 512th call is answered as due", due -> {
            LoadedForTheLane x = new LoadedForTheLane();
            for (int call = 1; call <= 510; call++) {
                due.is("call " + call, x.off(), -3);
            }
            due.is("call 511", x.count(13), 510);
            due.is("call 512", x.image(), 0);
        });
        of.part(WHAT, use, "512 calls that change it", due -> {
            LoadedForTheLane x = new LoadedForTheLane();
            for (int call = 1; call <= 509; call += 5) {
                due.is("letter", x.letter('r'), 1);
                due.is("letter", x.letter('0' + call % 6), 2);
                due.is("letter", x.letter(';'), 3);
                due.is("load", x.load(), 1);
                due.is("count", x.count(7), call % 6);
            }
        });
        of.part(WHAT, "what later calls answer is free.", "they end, and another object is as new", due -> {
            LoadedForTheLane x = wagon(due);
            for (int call = 0; call < 2000; call++) {
                x.lots(call % 3, call % 32, call);
                x.letter(call % 257);
                x.row(call % 101);
                x.load();
            }
            due.is("slips(1, 0) of another", wagon(due).slips(1, 0), 0);
        });
    }

    private static final String[] FACE = {
        "public int letter(int c);", "public int load();", "public int layer(int layer, int what);",
        "public int piece(int way, int piece, int what);", "public int off();", "public int out(int layer, int v);",
        "public int set(int what, int v);", "public int shift(int way, int piece, int layer);",
        "public int slips(int way, int what);", "public int margin(int way);", "public int high(int way);",
        "public int more(int way);", "public int farOut(int way, int layer);", "public int leaning(int way);",
        "public int enough(int way);", "public int home(int way);", "public int which();",
        "public int pitching(int pitch);", "public int quick(int way);", "public int rounds(int way, int n, int t);",
        "public int worth(int way, int n, int t);", "public long thunder(int way, int t, int part);",
        "public int fell(int way, int piece);", "public int whose(int way, int piece);",
        "public int boundBy(int shift, int what);", "public int row(int v);", "public int judge(int way);",
        "public int lots(int way, int n, int z);", "public int image();", "public int on();",
        "public int count(int what);"};

    private void face() {
        of.part("The public face", "public final class LoadedForTheLane { public LoadedForTheLane();",
            "public, final, above it Object alone, one constructor", due -> {
                Class<?> x = LoadedForTheLane.class;
                due.is("modifiers", x.getModifiers(), Modifier.PUBLIC | Modifier.FINAL);
                due.same("above it", x.getSuperclass().getName() + x.getInterfaces().length, "java.lang.Object0");
                due.is("constructors", x.getDeclaredConstructors().length, 1);
                due.is("public ones", x.getConstructors().length, 1);
                due.is("its parameters", x.getDeclaredConstructors()[0].getParameterCount(), 0);
                due.is("what it throws", x.getDeclaredConstructors()[0].getExceptionTypes().length, 0);
            });
        List<String> is = new ArrayList<>();
        for (Method m : LoadedForTheLane.class.getDeclaredMethods()) {
            if (Modifier.isPublic(m.getModifiers())) {
                is.add(m.toString().replaceAll("LoadedForTheLane\\.", "") + ";");
            }
        }
        for (String told : FACE) {
            of.part("The public face", told, "is there, once", due -> {
                String types = told.replaceAll("\\bint \\w+([,)])", "int$1").replace(", ", ",");
                due.is(told, is.stream().filter(types::equals).count(), 1);
            });
        }
        of.part("The public face", "public int count(int what); }", "nothing more is public", due -> {
            due.is("methods", is.size(), FACE.length);
            due.is("fields", LoadedForTheLane.class.getFields().length, 0);
            due.is("classes", LoadedForTheLane.class.getClasses().length, 0);
        });
    }

    private void notPromised() {
        of.part(NOT, "How the state is held inside the object is free, as are the speed of each call, the text of toString"
            + " and the behaviour of equals and hashCode.", "they end, and change nothing", due -> {
                LoadedForTheLane x = wagon(due);
                String was = Sentences.seen(x);
                due.is("a text", x.toString() == null ? 0 : 1, 1);
                x.hashCode();
                x.equals(null);
                x.equals(x);
                due.same("all", Sentences.seen(x), was);
                due.refusals(x, 0, 0, 0, 0, 0);
            });
        of.part(NOT, "Use of one object from several threads at once is not promised to be safe.",
            "of several objects, each in a thread of its own, it is", this::inThreads);
        of.part(NOT, "Nothing is promised beyond the answers and state changes described above, and nothing about an object"
            + " after its 512th call.", "a question changes no later answer", due -> {
                LoadedForTheLane x = wagon(due);
                String was = answers(x);
                for (int i = 0; i < 3; i++) {
                    due.same("answers asked again", answers(x), was);
                }
            });
    }

    private void inThreads(Sentences.Due due) {
        String alone = answers(wagon(due));
        String[] got = new String[8];
        Thread[] threads = new Thread[got.length];
        for (int i = 0; i < got.length; i++) {
            LoadedForTheLane x = wagon(due);
            int number = i;
            threads[i] = new Thread(() -> {
                for (int again = 0; again < 20; again++) {
                    got[number] = answers(x);
                }
            });
        }
        for (Thread thread : threads) {
            thread.start();
        }
        for (int i = 0; i < got.length; i++) {
            try {
                threads[i].join();
            } catch (InterruptedException e) {
                throw new IllegalStateException(e);
            }
            due.same("answers of thread " + i, got[i], alone);
        }
    }

    /** What questions answer that leave the wagon as it is. */
    private static String answers(LoadedForTheLane x) {
        StringBuilder answers = new StringBuilder();
        for (int way = 0; way < 2; way++) {
            long[] some = {x.slips(way, 0), x.slips(way, 1), x.margin(way), x.high(way), x.more(way), x.leaning(way),
                x.enough(way), x.home(way), x.which(), x.quick(way), x.lots(way, 30, 7), x.farOut(way, 0),
                x.farOut(way, 2), x.fell(way, 0), x.whose(way, 0), x.thunder(way, 3, 0), x.pitching(2)};
            for (long one : some) {
                answers.append(one).append(' ');
            }
        }
        return answers.append(x.rounds(0, 3, 200)).append(' ').append(x.worth(0, 3, 200)).toString();
    }
}
