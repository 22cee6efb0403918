/** Promises 2 and 3, and what the Terms say of letters, LOADS and FAULTS. */
final class LetterSentences {
    private static final int MIN = Integer.MIN_VALUE;
    private static final int MAX = Integer.MAX_VALUE;
    private static final String LAYER = "yl010+0;";

    private final Sentences of;

    LetterSentences(Sentences of) {
        this.of = of;
    }

    void all() {
        letter();
        load();
        statements();
        forms();
        faultsOfForm();
        faultsOfSense();
        sensesByNumber();
        rooms();
    }

    private static LoadedForTheLane full() {
        LoadedForTheLane x = new LoadedForTheLane();
        Sentences.tell(x, Sentences.times(96, "u"));
        return x;
    }

    private void letter() {
        of.promise(2, "A letter (0 .. 255) comes: how many there are.", "the least, the greatest are taken", due -> {
            LoadedForTheLane x = new LoadedForTheLane();
            due.is("letter(0)", x.letter(0), 1);
            due.is("letter(255)", x.letter(255), 2);
            due.is("count(9)", x.count(9), 2);
            due.refusals(x, 0, 0, 0, 0, 0);
        });
        of.promise(2, "A letter (0 .. 255) comes: how many there are.", "from none to 96", due -> {
            LoadedForTheLane x = new LoadedForTheLane();
            due.is("count(9) of none", x.count(9), 0);
            for (int n = 1; n <= 96; n++) {
                due.is("letter " + n, x.letter(n), n);
            }
        });
        of.promise(2, "-4;", "the first below the least", due -> {
            LoadedForTheLane x = new LoadedForTheLane();
            due.is("letter(-1)", x.letter(-1), -4);
            due.is("letter(MIN)", x.letter(MIN), -4);
            due.is("count(9)", x.count(9), 0);
            due.refusals(x, 0, 0, 0, 2, 0);
        });
        of.promise(2, "-6 (255; 96, too).", "the first above the greatest", due -> {
            LoadedForTheLane x = new LoadedForTheLane();
            due.is("letter(256)", x.letter(256), -6);
            due.is("letter(MAX)", x.letter(MAX), -6);
            due.is("count(9)", x.count(9), 0);
            due.refusals(x, 0, 0, 0, 0, 2);
        });
        of.promise(2, "-6 (255; 96, too).", "a letter above 255 is not the one that is left of it by a byte", due -> {
            LoadedForTheLane x = new LoadedForTheLane();
            Sentences.tell(x, "r1");
            due.is("letter(256 + ';')", x.letter(256 + ';'), -6);
            due.is("load()", x.load(), -1002);
        });
        of.promise(2, "-6 (255; 96, too).", "the 96th is taken, the 97th is not", due -> {
            LoadedForTheLane x = new LoadedForTheLane();
            Sentences.tell(x, Sentences.times(95, "u"));
            due.is("the 96th", x.letter('u'), 96);
            due.is("the 97th", x.letter('u'), -6);
            due.is("count(9)", x.count(9), 96);
            due.refusals(x, 0, 0, 0, 0, 1);
        });
        of.promise(2, "-6 (255; 96, too).", "full and above 255: one REFUSAL", due -> {
            LoadedForTheLane x = full();
            due.is("letter(256)", x.letter(256), -6);
            due.refusals(x, 0, 0, 0, 0, 1);
        });
        of.promise(2, "-4;", "comes ahead of no room", due -> {
            LoadedForTheLane x = full();
            due.is("letter(-1)", x.letter(-1), -4);
            due.refusals(x, 0, 0, 0, 1, 0);
        });
        of.terms(2, "A LOAD is told in letters, one by one (96 at most): STATEMENTS, each with \";\" behind:",
            "96 letters are a LOAD, and then there is room for 96 again", due -> {
                LoadedForTheLane x = new LoadedForTheLane();
                due.is("load of 96", Sentences.load(x, Sentences.times(32, "r1;")), 32);
                Sentences.tell(x, Sentences.times(31, "r2;"));
                due.is("the 94th", x.letter('r'), 94);
                due.is("the 95th", x.letter('3'), 95);
                due.is("the 96th", x.letter(';'), 96);
                due.is("the 97th", x.letter(';'), -6);
                due.is("load()", x.load(), 32);
                due.is("count(7)", x.count(7), 3);
            });
        of.terms(2, "A LOAD is told in letters, one by one (96 at most): STATEMENTS, each with \";\" behind:",
            "a refused letter is none of it", due -> {
                LoadedForTheLane x = new LoadedForTheLane();
                Sentences.tell(x, "r");
                x.letter(-1);
                x.letter(256);
                Sentences.tell(x, "4;");
                due.is("load()", x.load(), 1);
                due.is("count(7)", x.count(7), 4);
            });
    }

    private void load() {
        String become = "The letters become a LOAD, and are no more (with a FAULT neither): how many STATEMENTS;";
        of.promise(3, become, "one, several", due -> {
            LoadedForTheLane x = new LoadedForTheLane();
            due.is("load of one", Sentences.load(x, "r1;"), 1);
            due.is("letters behind it", x.count(9), 0);
            due.is("load of five", Sentences.load(x, LAYER + "u;r5;k11;f0;"), 5);
            due.is("letters behind it", x.count(9), 0);
            due.is("load of nothing more", x.load(), -1000);
        });
        of.promise(3, become, "letters are no more with a FAULT of kind 1", due -> {
            LoadedForTheLane x = new LoadedForTheLane();
            due.is("load", Sentences.load(x, "r1;x"), -1003);
            due.is("count(9)", x.count(9), 0);
            due.is("load of what came then", Sentences.load(x, "r2;"), 1);
        });
        of.promise(3, become, "letters are no more with a FAULT of kind 2", due -> {
            LoadedForTheLane x = new LoadedForTheLane();
            due.is("load", Sentences.load(x, "r1;r6;"), -2003);
            due.is("count(9)", x.count(9), 0);
            due.is("load of what came then", Sentences.load(x, "r2;"), 1);
        });
        of.promise(3, become, "96 letters are no more with a FAULT", due -> {
            LoadedForTheLane x = full();
            due.is("load()", x.load(), -1001);
            due.is("count(9)", x.count(9), 0);
            due.is("letter", x.letter('u'), 1);
        });
        of.promise(3, "the FAULT (nothing is counted).", "no FAULT is a REFUSAL", due -> {
            LoadedForTheLane x = new LoadedForTheLane();
            due.is("nothing told", x.load(), -1000);
            due.is("form", Sentences.load(x, "z"), -1000);
            due.is("something lacks", Sentences.load(x, "r"), -1001);
            due.is("a number below", Sentences.load(x, "yl000+0;"), -2000);
            due.is("a number above", Sentences.load(x, "r6;"), -2000);
            due.is("no LAYER to come off", Sentences.load(x, "u;"), -2000);
            due.is("no such WAY", Sentences.load(x, "w2s001;"), -2000);
            due.refusals(x, 0, 0, 0, 0, 0);
        });
    }

    private void statements() {
        of.terms(3, "\"y\" a letter of a KIND of LAYER, SHEAVES (2 digits), OUT (a digit), \"+\" or \"-\", LEAN (a digit):"
            + " a LAYER more;", "each of the seven KINDS, each number at its place", due -> {
                LoadedForTheLane x = due.loaded("yl129+5;yb010-5;yo101+4;yw202-4;yh033+0;", "yt044-0;ym195+1;");
                int[][] want = {{0, 12, 9, 5}, {1, 1, 0, -5}, {2, 10, 1, 4}, {3, 20, 2, -4}, {4, 3, 3, 0},
                    {5, 4, 4, 0}, {6, 19, 5, 1}};
                due.is("count(0)", x.count(0), 7);
                for (int layer = 0; layer < 7; layer++) {
                    for (int what = 0; what < 4; what++) {
                        due.is("layer(" + layer + ", " + what + ")", x.layer(layer, what), want[layer][what]);
                    }
                }
            });
        of.terms(3, "\"w\" a WAY (a digit), a letter of a KIND of PIECE, FIGURE (2 digits), MINUTES (a digit):"
            + " a PIECE more of it;", "each of the six KINDS on both WAYS", due -> {
                LoadedForTheLane x = due.loaded("w0s009;w0d121;w0j202;w0b013;w0r104;w0g055;",
                    "w1g201;w1r002;w1b193;w1j014;w1d105;w1s116;");
                int[][][] want = {{{0, 0, 9}, {1, 12, 1}, {2, 20, 2}, {3, 1, 3}, {4, 10, 4}, {5, 5, 5}},
                    {{5, 20, 1}, {4, 0, 2}, {3, 19, 3}, {2, 1, 4}, {1, 10, 5}, {0, 11, 6}}};
                for (int way = 0; way < 2; way++) {
                    due.is("count(" + (1 + way) + ")", x.count(1 + way), 6);
                    for (int piece = 0; piece < 6; piece++) {
                        for (int what = 0; what < 3; what++) {
                            due.is("piece(" + way + ", " + piece + ", " + what + ")", x.piece(way, piece, what),
                                want[way][piece][what]);
                        }
                    }
                }
            });
        of.terms(3, "\"r\" ROPES (a digit);", "becomes it, the last of several", due -> {
            LoadedForTheLane x = due.loaded("r5;r3;");
            due.is("count(7)", x.count(7), 3);
        });
        of.terms(3, "\"k\" SKILL, PITCH (a digit each);", "SKILL ahead of PITCH", due -> {
            LoadedForTheLane x = due.loaded("k29;");
            due.is("set(1, 1)", x.set(1, 1), 2);
            due.is("set(2, 1)", x.set(2, 1), 9);
        });
        of.terms(3, "\"f\" FIELD (1 to 3 digits);", "one, two, three digits, with noughts ahead", due -> {
            String[] told = {"0", "7", "00", "07", "70", "000", "007", "070", "999"};
            int[] want = {0, 7, 0, 7, 70, 0, 7, 70, 999};
            for (int i = 0; i < told.length; i++) {
                LoadedForTheLane x = due.loaded("f" + told[i] + ";");
                due.is("FIELD of " + told[i], x.set(3, 1), want[i]);
            }
        });
        of.terms(3, "\"f\" FIELD (1 to 3 digits);", "none and four are too few, too many", due -> {
            LoadedForTheLane x = new LoadedForTheLane();
            due.is("none", Sentences.load(x, "f;"), -1001);
            due.is("four", Sentences.load(x, "f0001;"), -1004);
            due.is("FIELD stays", x.set(3, 1), 200);
        });
        of.terms(3, "\"u\": the top LAYER comes off.", "the one that came last, to none at all", due -> {
            LoadedForTheLane x = due.loaded("yl020+0;yl030+0;u;");
            due.is("SHEAVES of the one left", x.count(6), 2);
            due.is("load", Sentences.load(x, "u;"), 1);
            due.is("count(0)", x.count(0), 0);
        });
        of.terms(3, "At least one STATEMENT.", "none", due -> {
            LoadedForTheLane x = new LoadedForTheLane();
            due.is("load() of no letters", x.load(), -1000);
            due.is("load of one", Sentences.load(x, "r0;"), 1);
            due.is("load() of none any more", x.load(), -1000);
        });
        of.terms(3, "At least one STATEMENT.", "an empty one is none", due -> {
            LoadedForTheLane x = new LoadedForTheLane();
            due.is("\";\"", Sentences.load(x, ";"), -1000);
            due.is("behind another", Sentences.load(x, "r1;;"), -1003);
        });
    }

    private static final String DIGITS = "0123456789";
    private static final String[][] FORMS = {
        {"y", "lbowhtm", DIGITS, DIGITS, DIGITS, "+-", DIGITS, ";"},
        {"w", DIGITS, "sdjbrg", DIGITS, DIGITS, DIGITS, ";"},
        {"r", DIGITS, ";"},
        {"k", DIGITS, DIGITS, ";"},
        {"f", DIGITS, DIGITS + ";", DIGITS + ";", ";"},
        {"u", ";"},
    };
    private static final String[] PLAIN = {LAYER, "w0s001;", "r0;", "k11;", "f000;", "u;"};

    /** Every letter 0 .. 255 at every place of every STATEMENT: told with nothing behind it. */
    private void forms() {
        String first = "FAULT: kind 1 the place of the first letter with which no LOAD can go on";
        for (int form = 0; form < FORMS.length; form++) {
            String plain = PLAIN[form];
            String[] fit = FORMS[form];
            for (int place = 1; place < fit.length; place++) {
                int at = place;
                of.terms(3, first, "each letter at place " + at + " of " + plain, due -> {
                    LoadedForTheLane x = new LoadedForTheLane();
                    for (int c = 0; c <= 255; c++) {
                        Sentences.tell(x, LAYER + plain.substring(0, at));
                        x.letter(c);
                        boolean fits = fit[at].indexOf(c) >= 0;
                        // What fits and ends nothing lacks something: the end is told.
                        int want = !fits ? -1000 - (8 + at) : c == ';' ? 2 : -1000 - (8 + at + 1);
                        due.is("letter " + c, x.load(), want);
                        x = c % 25 == 0 || want > 0 ? new LoadedForTheLane() : x;
                    }
                });
            }
        }
        of.terms(3, first, "each letter at the beginning, and behind a STATEMENT", due -> {
            LoadedForTheLane x = new LoadedForTheLane();
            for (int c = 0; c <= 255; c++) {
                int fits = "ywrkfu".indexOf(c) >= 0 ? 1 : 0;
                x.letter(c);
                due.is("letter " + c, x.load(), -1000 - fits);
                Sentences.tell(x, "r1;");
                x.letter(c);
                due.is("letter " + c + " behind a STATEMENT", x.load(), -1003 - fits);
                x = c % 25 == 0 ? new LoadedForTheLane() : x;
            }
        });
    }

    private void faultsOfForm() {
        String lacks = "(a LOAD may be longer than 96 letters for this; the end, if something lacks): -1000 less the place;";
        of.terms(3, lacks, "each STATEMENT cut off behind each of its letters", due -> {
            for (String plain : PLAIN) {
                for (int length = 1; length < plain.length(); length++) {
                    LoadedForTheLane x = new LoadedForTheLane();
                    String told = plain.substring(0, length);
                    due.is(told, Sentences.load(x, told), -1000 - length);
                    due.is("r1;" + told, Sentences.load(x, "r1;" + told), -1003 - length);
                }
            }
        });
        of.terms(3, lacks, "96 letters that lack something: the end is place 96", due -> {
            LoadedForTheLane x = new LoadedForTheLane();
            due.is("the last lacks one", Sentences.load(x, Sentences.times(31, "r1;") + "k11"), -1096);
            due.is("the last is a wrong one", Sentences.load(x, Sentences.times(31, "r1;") + "r1y"), -1095);
            due.is("a new one has begun at 95", Sentences.load(x, Sentences.times(31, "r1;") + "u;" + "u"), -1096);
        });
        of.terms(3, lacks, "a LAYER that can't end within 96 letters is no FAULT at its place", due -> {
            LoadedForTheLane x = new LoadedForTheLane();
            // The STATEMENT begins at 90 and would end at 97.
            due.is("load", Sentences.load(x, Sentences.times(30, "r1;") + "yl010+"), -1096);
            due.is("a wrong last letter", Sentences.load(x, Sentences.times(30, "r1;") + "yl0100"), -1095);
        });
        of.terms(3, lacks, "96 letters that lack nothing", due -> {
            LoadedForTheLane x = new LoadedForTheLane();
            due.is("load", Sentences.load(x, Sentences.times(32, "r1;")), 32);
        });
        of.terms(3, "FAULT: kind 1 the place of the first letter with which no LOAD can go on",
            "the first of two", due -> {
                LoadedForTheLane x = new LoadedForTheLane();
                due.is("r1;rr;y?", Sentences.load(x, "r1;rr;y?"), -1004);
            });
        of.terms(3, "FAULT: kind 1 the place of the first letter with which no LOAD can go on",
            "a number out of range can go on: kind 1 behind it is told", due -> {
                LoadedForTheLane x = new LoadedForTheLane();
                due.is("SHEAVES of 99", Sentences.load(x, "yl999+9;z"), -1008);
                due.is("WAY 9", Sentences.load(x, "w9s990;z"), -1007);
                due.is("nothing to come off", Sentences.load(x, "u;u"), -1003);
                due.is("ROPES of 9", Sentences.load(x, "r9;k"), -1004);
            });
    }

    private void faultsOfSense() {
        String kind2 = "else kind 2 the place of the first letter of the first STATEMENT that, behind all ahead of it"
            + " in the text, is not as it must be";
        of.terms(3, kind2, "the first of several, each place of its own", due -> {
            LoadedForTheLane x = new LoadedForTheLane();
            due.is("the first", Sentences.load(x, "r6;k00;u;"), -2000);
            due.is("the second", Sentences.load(x, "r5;k00;u;"), -2003);
            due.is("the third", Sentences.load(x, "r5;k11;u;"), -2007);
            due.is("none", Sentences.load(x, "r5;k11;"), 2);
        });
        of.terms(3, kind2, "the last that begins within 96 letters", due -> {
            LoadedForTheLane x = new LoadedForTheLane();
            due.is("place 93", Sentences.load(x, Sentences.times(31, "r1;") + "r6;"), -2093);
            due.is("place 94", Sentences.load(x, Sentences.times(30, "r1;") + "k11;" + "u;"), -2094);
        });
        of.terms(3, kind2, "what is ahead in the text counts", due -> {
            LoadedForTheLane x = new LoadedForTheLane();
            due.is("a LAYER ahead", Sentences.load(x, LAYER + "u;"), 2);
            due.is("a LAYER behind", Sentences.load(x, "u;" + LAYER), -2000);
            due.is("one LAYER, two off", Sentences.load(x, LAYER + "u;u;"), -2010);
        });
        String nothing = "Without FAULT all of it comes, with one nothing.";
        of.terms(3, nothing, "nothing of a LOAD with a FAULT of kind 2 at its end", due -> {
            LoadedForTheLane x = due.loaded("yb123-4;w0d121;r2;k56;f78;");
            String was = Sentences.seen(x);
            due.is("load", Sentences.load(x, "u;yl010+0;yl010+0;w0s001;w1s001;r5;k99;f999;r6;"), -2044);
            due.same("all", Sentences.seen(x), was);
        });
        of.terms(3, nothing, "nothing of a LOAD with a FAULT of kind 1 at its end", due -> {
            LoadedForTheLane x = due.loaded("yb123-4;w0d121;r2;k56;f78;");
            String was = Sentences.seen(x);
            due.is("load", Sentences.load(x, "u;yl010+0;yl010+0;w0s001;w1s001;r5;k99;f999;r"), -1045);
            due.same("all", Sentences.seen(x), was);
        });
        of.terms(3, nothing, "nothing of half a \"k\"", due -> {
            LoadedForTheLane x = new LoadedForTheLane();
            due.is("PITCH 0", Sentences.load(x, "k90;"), -2000);
            due.is("SKILL 0", Sentences.load(x, "k09;"), -2000);
            due.is("SKILL", x.set(1, 1), 4);
            due.is("PITCH", x.set(2, 1), 3);
        });
        of.terms(3, nothing, "all of it comes", due -> {
            LoadedForTheLane x = due.loaded("yl010+0;w0s001;w1d001;r1;k99;f1;yb010+0;u;");
            due.is("LAYERS", x.count(0), 1);
            due.is("PIECES", x.count(1) * 10 + x.count(2), 11);
            due.is("ROPES", x.set(0, 0), 1);
            due.is("SKILL", x.set(1, 1), 9);
            due.is("PITCH", x.set(2, 1), 9);
            due.is("FIELD", x.set(3, 0), 1);
        });
    }

    private static final String OUT_OF_SENSE =
        "(a number out of range, no LAYER to come off, no room for more): -2000 less the place.";

    private void outOfRange(String which, String[] within, String[] without) {
        of.terms(3, OUT_OF_SENSE, which, due -> {
            for (String told : within) {
                due.is(told, Sentences.load(new LoadedForTheLane(), told), 1);
            }
            for (String told : without) {
                LoadedForTheLane x = new LoadedForTheLane();
                String was = Sentences.seen(x);
                due.is(told, Sentences.load(x, told), -2000);
                due.is("r5;" + told, Sentences.load(x, "r5;" + told), -2003);
                due.same("all behind " + told, Sentences.seen(x), was);
            }
        });
    }

    private void sensesByNumber() {
        outOfRange("SHEAVES 1 .. 20", new String[] {"yl010+0;", "yl200+0;", "yl100+0;", "yl090+0;"},
            new String[] {"yl000+0;", "yl210+0;", "yl300+0;", "yl990+0;"});
        outOfRange("OUT 0 .. 9: every digit", new String[] {"yl010+0;", "yl019+0;"}, new String[0]);
        outOfRange("LEAN -5 .. 5", new String[] {"yl010-5;", "yl010+5;", "yl010+0;", "yl010-0;"},
            new String[] {"yl010-6;", "yl010+6;", "yl010-9;", "yl010+9;"});
        outOfRange("WAYS 0 and 1", new String[] {"w0s001;", "w1s001;"}, new String[] {"w2s001;", "w9s001;"});
        outOfRange("FIGURE 0 .. 20", new String[] {"w0s001;", "w0s201;", "w0g001;", "w0g201;"},
            new String[] {"w0s211;", "w0g211;", "w0r301;", "w0s991;"});
        outOfRange("MINUTES 1 .. 9", new String[] {"w0s001;", "w0s009;"}, new String[] {"w0s000;", "w1g200;"});
        outOfRange("ROPES 0 .. 5", new String[] {"r0;", "r5;"}, new String[] {"r6;", "r9;"});
        outOfRange("SKILL 1 .. 9", new String[] {"k11;", "k91;"}, new String[] {"k01;", "k09;"});
        outOfRange("PITCH 1 .. 9", new String[] {"k11;", "k19;"}, new String[] {"k10;", "k90;", "k00;"});
        outOfRange("FIELD 0 .. 999: every number of three digits", new String[] {"f0;", "f999;"}, new String[0]);
        outOfRange("no LAYER to come off", new String[0], new String[] {"u;"});
    }

    private void rooms() {
        of.terms(3, OUT_OF_SENSE, "room for the 11th LAYER, none for the 12th", due -> {
            LoadedForTheLane x = due.layers(10, LAYER);
            due.is("the 11th and the 12th", Sentences.load(x, LAYER + LAYER), -2008);
            due.is("count(0)", x.count(0), 10);
            due.is("the 11th", Sentences.load(x, LAYER), 1);
            due.is("count(0)", x.count(0), 11);
            due.is("the 12th", Sentences.load(x, LAYER), -2000);
            due.is("count(0)", x.count(0), 11);
        });
        of.terms(3, OUT_OF_SENSE, "twelve LAYERS in 96 letters: the 12th has no room", due -> {
            LoadedForTheLane x = new LoadedForTheLane();
            due.is("load", Sentences.load(x, Sentences.times(12, LAYER)), -2088);
            due.is("count(0)", x.count(0), 0);
            due.is("eleven", Sentences.load(x, Sentences.times(11, LAYER)), 11);
        });
        of.terms(3, OUT_OF_SENSE, "a full wagon has room behind \"u\", not ahead of it", due -> {
            LoadedForTheLane x = due.layers(11, LAYER);
            due.is("ahead", Sentences.load(x, LAYER + "u;"), -2000);
            due.is("behind", Sentences.load(x, "u;" + LAYER), 2);
            due.is("twice behind", Sentences.load(x, "u;" + LAYER + LAYER), -2010);
            due.is("count(0)", x.count(0), 11);
        });
        of.terms(3, OUT_OF_SENSE, "all eleven come off, a twelfth doesn't", due -> {
            LoadedForTheLane x = due.layers(11, LAYER);
            due.is("twelve", Sentences.load(x, Sentences.times(12, "u;")), -2022);
            due.is("count(0)", x.count(0), 11);
            due.is("eleven", Sentences.load(x, Sentences.times(11, "u;")), 11);
            due.is("count(0)", x.count(0), 0);
        });
        for (int way = 0; way < 2; way++) {
            String piece = "w" + way + "s001;";
            String other = "w" + (1 - way) + "s001;";
            of.terms(3, OUT_OF_SENSE, "room for the 6th PIECE of a WAY, none for the 7th: " + piece, due -> {
                LoadedForTheLane x = due.loaded(Sentences.times(5, piece));
                due.is("the 6th and the 7th", Sentences.load(x, piece + piece), -2007);
                due.is("the 6th", Sentences.load(x, piece), 1);
                due.is("the 7th", Sentences.load(x, piece), -2000);
                due.is("of the other WAY the 1st", Sentences.load(x, other), 1);
                due.is("PIECES", Math.max(x.count(1), x.count(2)) * 10 + Math.min(x.count(1), x.count(2)), 61);
            });
        }
    }
}
