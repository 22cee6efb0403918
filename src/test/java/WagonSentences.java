/** Promises 1 and 4 to 9, and what the Terms say of LAYERS, WAYS, settings and KINDS. */
final class WagonSentences {
    private static final int MIN = Integer.MIN_VALUE;
    private static final int MAX = Integer.MAX_VALUE;
    private static final int WIDE = 1000000000;
    private static final String LAYER = "yl010+0;";

    private final Sentences of;

    WagonSentences(Sentences of) {
        this.of = of;
    }

    void all() {
        newObject();
        layers();
        settings();
        ways();
        kindsOfLayers();
        sums();
        layer();
        piece();
        off();
        out();
        set();
        kindsOfPieces();
        branchesAndGates();
        shift();
    }

    private void newObject() {
        of.promise(1, "An empty wagon, no PIECES.", "all that can be counted", due -> {
            LoadedForTheLane x = new LoadedForTheLane();
            for (int what = 0; what <= 16; what++) {
                due.is("count(" + what + ")", x.count(what), what == 4 ? 96 : what == 10 ? -9 : 0);
            }
        });
        of.promise(1, "An empty wagon, no PIECES.", "no LAYER, no PIECE, no image, no letters, no ROW", due -> {
            LoadedForTheLane x = new LoadedForTheLane();
            due.is("layer(0, 0)", x.layer(0, 0), WIDE + 1);
            due.is("piece(0, 0, 0)", x.piece(0, 0, 0), -1);
            due.is("piece(1, 0, 0)", x.piece(1, 0, 0), -1);
            due.is("off()", x.off(), -3);
            due.is("on()", x.on(), -3);
            due.is("load()", x.load(), -1000);
            due.is("letter('r')", x.letter('r'), 1);
            due.is("row(0)", x.row(0), 1);
        });
        of.promise(1, "An empty wagon, no PIECES.", "whatever another one holds", due -> {
            LoadedForTheLane x = due.loaded(LAYER + "w0s001;w1s001;r5;k99;f1;");
            x.image();
            x.row(1);
            x.letter('r');
            x.off();
            x.slips(2, 0);
            LoadedForTheLane y = new LoadedForTheLane();
            due.same("all of the new one", Sentences.seen(y), "0 0 0 0 96 0 0 0 0 0 set0 set4 set3 set200 ");
            due.is("on()", y.on(), -3);
            due.refusals(y, 0, 0, 1, 0, 0);
        });
    }

    private void layers() {
        String come = "LAYERS 0 .. 10 as they come (11 at most), each upon the one before: KIND, SHEAVES (1 .. 20),"
            + " OUT (0 .. 9 inches), LEAN (-5 .. 5).";
        of.terms(4, come, "a full wagon: LAYER 10 is the last", due -> {
            LoadedForTheLane x = due.loaded("yl010-5;yb020-4;yo030-3;yw040-2;yh050-1;yt060+0;ym070+1;",
                "yl080+2;yb180+3;yo199+4;yt209+5;");
            due.is("count(0)", x.count(0), 11);
            for (int layer = 0; layer < 11; layer++) {
                due.is("LEAN of " + layer, x.layer(layer, 3), layer - 5);
            }
            due.is("SHEAVES of the first", x.layer(0, 1), 1);
            due.is("SHEAVES of the last", x.layer(10, 1), 20);
            due.is("OUT of the first", x.layer(0, 2), 0);
            due.is("OUT of the last", x.layer(10, 2), 9);
            due.is("KIND of the last", x.layer(10, 0), 5);
            due.is("layer(11, 0)", x.layer(11, 0), WIDE + 1);
        });
        of.terms(4, come, "\"-0\" is LEAN 0", due -> {
            LoadedForTheLane x = due.loaded("yl010-0;");
            due.is("layer(0, 3)", x.layer(0, 3), 0);
        });
    }

    private void settings() {
        of.terms(8, "ROPES (0 .. 5; 0 at first).", "at first, the least, the greatest, beyond", due -> {
            LoadedForTheLane x = new LoadedForTheLane();
            due.is("count(7)", x.count(7), 0);
            due.is("set(0, 5)", x.set(0, 5), 0);
            due.is("count(7)", x.count(7), 5);
            due.is("set(0, 6)", x.set(0, 6), -6);
            due.is("set(0, -1)", x.set(0, -1), -4);
            due.is("set(0, 0)", x.set(0, 0), 5);
            due.is("count(7)", x.count(7), 0);
        });
        of.terms(8, "SKILL (1 .. 9: 4 at first), PITCH (1 .. 9: 3 at first).", "at first, least, greatest, beyond",
            due -> {
                LoadedForTheLane x = new LoadedForTheLane();
                for (int what = 1; what <= 2; what++) {
                    due.is("0", x.set(what, 0), -4);
                    due.is("10", x.set(what, 10), -6);
                    due.is("1", x.set(what, 1), what == 1 ? 4 : 3);
                    due.is("9", x.set(what, 9), 1);
                    due.is("9 again", x.set(what, 9), 9);
                }
            });
        of.terms(8, "FIELD (0 .. 999 SHEAVES; 200 at first).", "at first, the least, the greatest, beyond", due -> {
            LoadedForTheLane x = new LoadedForTheLane();
            due.is("-1", x.set(3, -1), -4);
            due.is("1000", x.set(3, 1000), -6);
            due.is("0", x.set(3, 0), 200);
            due.is("999", x.set(3, 999), 0);
            due.is("999 again", x.set(3, 999), 999);
        });
    }

    private void ways() {
        String come = "WAYS 0 and 1, each of PIECES as they come (6 each at most): KIND, FIGURE (0 .. 20),"
            + " MINUTES (1 .. 9).";
        of.terms(5, come, "a full WAY: PIECE 5 is the last; the other is empty", due -> {
            LoadedForTheLane x = due.loaded("w1s001;w1d012;w1j023;w1b104;w1r198;w1g209;");
            due.is("count(1)", x.count(1), 0);
            due.is("count(2)", x.count(2), 6);
            due.is("FIGURE of the first", x.piece(1, 0, 1), 0);
            due.is("MINUTES of the first", x.piece(1, 0, 2), 1);
            due.is("KIND of the last", x.piece(1, 5, 0), 5);
            due.is("FIGURE of the last", x.piece(1, 5, 1), 20);
            due.is("MINUTES of the last", x.piece(1, 5, 2), 9);
            due.is("piece(1, 6, 0)", x.piece(1, 6, 0), -1);
            due.is("piece(0, 0, 0)", x.piece(0, 0, 0), -1);
        });
        of.terms(5, come, "both full", due -> {
            LoadedForTheLane x = due.loaded(Sentences.times(6, "w0s001;"), Sentences.times(6, "w1g209;"));
            due.is("count(1)", x.count(1), 6);
            due.is("count(2)", x.count(2), 6);
            due.is("piece(0, 5, 0)", x.piece(0, 5, 0), 0);
            due.is("piece(1, 5, 0)", x.piece(1, 5, 0), 5);
        });
    }

    /** WEIGHT, BINDING, THICK of a LAYER by one letter and its SHEAVES. */
    private static void kind(Sentences.Due due, char letter, int sheaves, int weight, int binding, int thick) {
        String told = "y" + letter + sheaves / 10 + sheaves % 10 + "0+0;";
        LoadedForTheLane x = due.loaded(told);
        due.is("WEIGHT of " + told, x.layer(0, 4), weight);
        due.is("BINDING of " + told, x.layer(0, 5), binding);
        due.is("THICK of " + told, x.layer(0, 6), thick);
        due.is("LOAD of " + told, x.layer(0, 7), weight);
        due.is("HEIGHT of " + told, x.count(3), thick);
        due.is("all WEIGHT of " + told, x.count(5), weight);
        due.is("all SHEAVES of " + told, x.count(6), sheaves);
    }

    private void kindsOfLayers() {
        of.terms(4, "LAYERS, KINDS, WEIGHT, BINDING, THICK: l LAYER: 10 a SHEAF; 5 a SHEAF; 9.", "1 and 20", due -> {
            kind(due, 'l', 1, 10, 5, 9);
            kind(due, 'l', 20, 200, 100, 9);
        });
        of.terms(4, "b BOUND under LAYER: BINDING 3 a SHEAF more.", "1 and 20", due -> {
            kind(due, 'b', 1, 10, 8, 9);
            kind(due, 'b', 20, 200, 160, 9);
        });
        of.terms(4, "o LOOSE under LAYER: BINDING half, cut; THICK 2 more.", "1 and 20, an odd one is cut", due -> {
            kind(due, 'o', 1, 10, 2, 11);
            kind(due, 'o', 2, 20, 5, 11);
            kind(due, 'o', 19, 190, 47, 11);
            kind(due, 'o', 20, 200, 50, 11);
        });
        of.terms(4, "w WET under LAYER: WEIGHT 4 a SHEAF more; THICK 1 less.", "1 and 20", due -> {
            kind(due, 'w', 1, 14, 5, 8);
            kind(due, 'w', 20, 280, 100, 8);
        });
        of.terms(4, "h HURRIED under LOOSE: BINDING 10 less, 0 at least.", "below, at and above 0", due -> {
            kind(due, 'h', 1, 10, 0, 11);
            kind(due, 'h', 3, 30, 0, 11);
            kind(due, 'h', 4, 40, 0, 11);
            kind(due, 'h', 5, 50, 2, 11);
            kind(due, 'h', 20, 200, 40, 11);
        });
        of.terms(4, "t TOP under BOUND: WEIGHT 60 more (boys).", "60 a LAYER, not a SHEAF", due -> {
            kind(due, 't', 1, 70, 8, 9);
            kind(due, 't', 20, 260, 160, 9);
        });
        of.terms(4, "m MATTED under WET: as a WET one; BINDING 2 a SHEAF more.", "1 and 20", due -> {
            kind(due, 'm', 1, 14, 7, 8);
            kind(due, 'm', 20, 280, 140, 8);
        });
    }

    private void sums() {
        of.terms(4, "LOAD of a LAYER: WEIGHTS of it and all above.", "the first and the last of a full wagon", due -> {
            LoadedForTheLane x = due.layers(11, "yw200+0;");
            due.is("of the first", x.layer(0, 7), 3080);
            due.is("of the last but one", x.layer(9, 7), 560);
            due.is("of the last", x.layer(10, 7), 280);
            x.off();
            due.is("of the first with one less", x.layer(0, 7), 2800);
            due.is("of the last with one less", x.layer(9, 7), 280);
        });
        String highAndWide = "HEIGHT: all THICK; WIDTH: 96 and twice the greatest OUT.";
        of.terms(32, highAndWide, "empty", due -> {
            LoadedForTheLane x = new LoadedForTheLane();
            due.is("HEIGHT", x.count(3), 0);
            due.is("WIDTH", x.count(4), 96);
        });
        of.terms(32, highAndWide, "emptied: nothing is left of the LAYER that came off", due -> {
            LoadedForTheLane x = due.loaded("yl209+5;w0g001;w0b201;");
            due.is("WIDTH", x.count(4), 114);
            due.is("off()", x.off(), 0);
            due.is("HEIGHT", x.count(3), 0);
            due.is("WIDTH", x.count(4), 96);
            due.is("all WEIGHT", x.count(5), 0);
            due.is("all SHEAVES", x.count(6), 0);
            due.is("slips(0, 0)", x.slips(0, 0), -9);
            due.is("fell(0, 0)", x.fell(0, 0), 0);
            due.is("margin(0)", x.margin(0), 9999);
            due.is("load", Sentences.load(x, "yl010+0;"), 1);
            due.is("LOAD of the next one", x.layer(0, 7), 10);
            due.is("WIDTH of the next one", x.count(4), 96);
        });
        of.terms(32, highAndWide, "full: the lowest, the highest", due -> {
            due.is("WET ones", due.layers(11, "yw010+0;").count(3), 88);
            due.is("LOOSE ones", due.layers(11, "yo010+0;").count(3), 121);
        });
        of.terms(32, highAndWide, "the greatest OUT is the first, one between, the last", due -> {
            LoadedForTheLane x = due.layers(11, LAYER);
            due.is("none", x.count(4), 96);
            x.out(0, 3);
            due.is("the first", x.count(4), 102);
            x.out(5, 4);
            due.is("one between", x.count(4), 104);
            x.out(10, 9);
            due.is("the last", x.count(4), 114);
            x.off();
            due.is("the last is off", x.count(4), 104);
        });
    }

    private void layer() {
        String told = "Of a LAYER: 0 KIND (0 l, 1 b, 2 o, 3 w, 4 h, 5 t, 6 m), 1 SHEAVES, 2 OUT, 3 LEAN, 4 WEIGHT,"
            + " 5 BINDING, 6 THICK, 7 LOAD.";
        of.promise(4, told, "each what, from the least to the greatest", due -> {
            LoadedForTheLane x = due.loaded("yt122-3;yb050+0;");
            int[] want = {5, 12, 2, -3, 180, 96, 9, 230};
            for (int what = 0; what <= 7; what++) {
                due.is("layer(0, " + what + ")", x.layer(0, what), want[what]);
            }
        });
        of.promise(4, told, "each KIND", due -> {
            LoadedForTheLane x = due.loaded("yl010+0;yb010+0;yo010+0;yw010+0;yh010+0;yt010+0;ym010+0;");
            for (int kind = 0; kind <= 6; kind++) {
                due.is("layer(" + kind + ", 0)", x.layer(kind, 0), kind);
            }
        });
        of.promise(4, "Refused as told: -1; -2.", "-1: the first LAYER that is not there on each side", due -> {
            LoadedForTheLane x = due.layers(2, LAYER);
            due.is("layer(1, 0)", x.layer(1, 0), 0);
            due.is("layer(2, 0)", x.layer(2, 0), WIDE + 1);
            due.is("layer(-1, 0)", x.layer(-1, 0), WIDE + 1);
            due.is("layer(MAX, 0)", x.layer(MAX, 0), WIDE + 1);
            due.is("layer(MIN, 0)", x.layer(MIN, 0), WIDE + 1);
            due.refusals(x, 4, 0, 0, 0, 0);
        });
        of.promise(4, "Refused as told: -1; -2.", "-1 on an empty and on a full wagon", due -> {
            due.is("empty", new LoadedForTheLane().layer(0, 7), WIDE + 1);
            LoadedForTheLane x = due.layers(11, LAYER);
            due.is("the last of all", x.layer(10, 1), 1);
            due.is("behind the last of all", x.layer(11, 1), WIDE + 1);
        });
        of.promise(4, "Refused as told: -1; -2.", "-2: the first what that is none on each side", due -> {
            LoadedForTheLane x = due.loaded(LAYER);
            due.is("layer(0, -1)", x.layer(0, -1), WIDE + 2);
            due.is("layer(0, 8)", x.layer(0, 8), WIDE + 2);
            due.is("layer(0, MIN)", x.layer(0, MIN), WIDE + 2);
            due.is("layer(0, MAX)", x.layer(0, MAX), WIDE + 2);
            due.refusals(x, 0, 4, 0, 0, 0);
        });
        of.promise(4, "Refused as told: -1; -2.", "-1 comes first", due -> {
            LoadedForTheLane x = due.loaded(LAYER);
            due.is("layer(1, 8)", x.layer(1, 8), WIDE + 1);
            due.refusals(x, 1, 0, 0, 0, 0);
        });
    }

    private void piece() {
        String told = "Of a PIECE: 0 KIND (0 s, 1 d, 2 j, 3 b, 4 r, 5 g), 1 FIGURE, 2 MINUTES.";
        of.promise(5, told, "each KIND, each what", due -> {
            LoadedForTheLane x = due.loaded("w0s001;w0d042;w0j083;w0b124;w0r165;w0g206;");
            for (int piece = 0; piece < 6; piece++) {
                due.is("KIND", x.piece(0, piece, 0), piece);
                due.is("FIGURE", x.piece(0, piece, 1), 4 * piece);
                due.is("MINUTES", x.piece(0, piece, 2), 1 + piece);
            }
        });
        of.promise(5, "-1 either; -2.", "-1: the first WAY that is not there on each side", due -> {
            LoadedForTheLane x = due.loaded("w0s001;w1s001;");
            due.is("piece(0, 0, 2)", x.piece(0, 0, 2), 1);
            due.is("piece(1, 0, 2)", x.piece(1, 0, 2), 1);
            due.is("piece(-1, 0, 2)", x.piece(-1, 0, 2), -1);
            due.is("piece(2, 0, 2)", x.piece(2, 0, 2), -1);
            due.is("piece(MIN, 0, 2)", x.piece(MIN, 0, 2), -1);
            due.is("piece(MAX, 0, 2)", x.piece(MAX, 0, 2), -1);
            due.refusals(x, 4, 0, 0, 0, 0);
        });
        of.promise(5, "-1 either; -2.", "-1: the first PIECE that is not there on each side", due -> {
            LoadedForTheLane x = due.loaded("w0s001;w0s001;w1s001;");
            due.is("piece(0, 1, 2)", x.piece(0, 1, 2), 1);
            due.is("piece(0, 2, 2)", x.piece(0, 2, 2), -1);
            due.is("piece(1, 1, 2)", x.piece(1, 1, 2), -1);
            due.is("piece(0, -1, 2)", x.piece(0, -1, 2), -1);
            due.is("piece(0, MIN, 2)", x.piece(0, MIN, 2), -1);
            due.is("piece(0, MAX, 2)", x.piece(0, MAX, 2), -1);
            due.is("both", x.piece(2, 6, 2), -1);
            due.refusals(x, 6, 0, 0, 0, 0);
        });
        of.promise(5, "-1 either; -2.", "-1 on an empty and a full WAY", due -> {
            LoadedForTheLane x = due.loaded(Sentences.times(6, "w0s001;"));
            due.is("empty", x.piece(1, 0, 0), -1);
            due.is("the last", x.piece(0, 5, 0), 0);
            due.is("behind the last", x.piece(0, 6, 0), -1);
        });
        of.promise(5, "-1 either; -2.", "-2: the first what that is none on each side", due -> {
            LoadedForTheLane x = due.loaded("w0s001;");
            due.is("piece(0, 0, -1)", x.piece(0, 0, -1), -2);
            due.is("piece(0, 0, 3)", x.piece(0, 0, 3), -2);
            due.is("piece(0, 0, MIN)", x.piece(0, 0, MIN), -2);
            due.is("piece(0, 0, MAX)", x.piece(0, 0, MAX), -2);
            due.refusals(x, 0, 4, 0, 0, 0);
        });
        of.promise(5, "-1 either; -2.", "-1 comes first", due -> {
            LoadedForTheLane x = due.loaded("w0s001;");
            due.is("no WAY, no what", x.piece(2, 0, 3), -1);
            due.is("no PIECE, no what", x.piece(0, 1, 3), -1);
            due.refusals(x, 2, 0, 0, 0, 0);
        });
    }

    private void off() {
        of.promise(6, "The top LAYER comes off: how many there are.", "from full to empty", due -> {
            LoadedForTheLane x = due.layers(11, LAYER);
            for (int left = 10; left >= 0; left--) {
                due.is("off()", x.off(), left);
            }
            due.is("count(0)", x.count(0), 0);
            due.is("count(5)", x.count(5), 0);
        });
        of.promise(6, "The top LAYER comes off: how many there are.", "it is the top one", due -> {
            LoadedForTheLane x = due.loaded("yl020+0;yb030+0;");
            due.is("off()", x.off(), 1);
            due.is("SHEAVES left", x.count(6), 2);
            due.is("KIND left", x.layer(0, 0), 0);
        });
        of.promise(6, "-3 there is none.", "none at first, none any more", due -> {
            LoadedForTheLane x = new LoadedForTheLane();
            due.is("off()", x.off(), -3);
            due.is("load", Sentences.load(x, LAYER), 1);
            due.is("off()", x.off(), 0);
            due.is("off()", x.off(), -3);
            due.refusals(x, 0, 0, 2, 0, 0);
        });
    }

    private void out() {
        of.promise(7, "OUT becomes v: what it was.", "the least, the greatest; the first, the last LAYER", due -> {
            LoadedForTheLane x = due.layers(11, "yl014+0;");
            for (int layer = 0; layer <= 10; layer += 10) {
                due.is("out 0", x.out(layer, 0), 4);
                due.is("out 9", x.out(layer, 9), 0);
                due.is("out 9 again", x.out(layer, 9), 9);
                due.is("OUT", x.layer(layer, 2), 9);
            }
            due.is("OUT of another", x.layer(5, 2), 4);
        });
        of.promise(7, "-1; -4; -6 9.", "-1: the first LAYER that is not there on each side", due -> {
            LoadedForTheLane x = due.layers(2, LAYER);
            due.is("out(1, 0)", x.out(1, 0), 0);
            due.is("out(2, 0)", x.out(2, 0), -1);
            due.is("out(-1, 0)", x.out(-1, 0), -1);
            due.is("out(MIN, 0)", x.out(MIN, 0), -1);
            due.is("out(MAX, 0)", x.out(MAX, 0), -1);
            due.is("of an empty wagon", new LoadedForTheLane().out(0, 0), -1);
            due.refusals(x, 4, 0, 0, 0, 0);
        });
        of.promise(7, "-1; -4; -6 9.", "-4 below 0, -6 above 9; OUT stays", due -> {
            LoadedForTheLane x = due.loaded("yl017+0;");
            due.is("out(0, -1)", x.out(0, -1), -4);
            due.is("out(0, MIN)", x.out(0, MIN), -4);
            due.is("out(0, 10)", x.out(0, 10), -6);
            due.is("out(0, MAX)", x.out(0, MAX), -6);
            due.is("OUT", x.layer(0, 2), 7);
            due.refusals(x, 0, 0, 0, 2, 2);
        });
        of.promise(7, "-1; -4; -6 9.", "-1 comes first", due -> {
            LoadedForTheLane x = due.loaded("yl017+0;");
            due.is("out(1, -1)", x.out(1, -1), -1);
            due.is("out(-1, 10)", x.out(-1, 10), -1);
            due.refusals(x, 2, 0, 0, 0, 0);
        });
    }

    private void set() {
        of.promise(8, "ROPES (what 0), SKILL (1), PITCH (2), FIELD (3) becomes v: what it was.",
            "the least, the greatest of each", due -> {
                LoadedForTheLane x = new LoadedForTheLane();
                int[] least = {0, 1, 1, 0};
                int[] greatest = {5, 9, 9, 999};
                int[] first = {0, 4, 3, 200};
                for (int what = 0; what <= 3; what++) {
                    due.is("least of " + what, x.set(what, least[what]), first[what]);
                    due.is("greatest of " + what, x.set(what, greatest[what]), least[what]);
                    due.is("greatest of " + what + " again", x.set(what, greatest[what]), greatest[what]);
                }
                due.refusals(x, 0, 0, 0, 0, 0);
            });
        String refused = "-2; -4 (0; 1; 1; 0); -6 (5; 9; 9; 999).";
        of.promise(8, refused, "-2: the first what that is none on each side", due -> {
            LoadedForTheLane x = new LoadedForTheLane();
            due.is("set(-1, 1)", x.set(-1, 1), -2);
            due.is("set(4, 1)", x.set(4, 1), -2);
            due.is("set(MIN, 1)", x.set(MIN, 1), -2);
            due.is("set(MAX, 1)", x.set(MAX, 1), -2);
            due.refusals(x, 0, 4, 0, 0, 0);
        });
        of.promise(8, refused, "-4: the first below the least of each; nothing changes", due -> {
            LoadedForTheLane x = new LoadedForTheLane();
            String was = Sentences.seen(x);
            int[] below = {-1, 0, 0, -1};
            for (int what = 0; what <= 3; what++) {
                due.is("set(" + what + ", " + below[what] + ")", x.set(what, below[what]), -4);
                due.is("set(" + what + ", MIN)", x.set(what, MIN), -4);
            }
            due.same("all", Sentences.seen(x), was);
            due.refusals(x, 0, 0, 0, 8, 0);
        });
        of.promise(8, refused, "-6: the first above the greatest of each; nothing changes", due -> {
            LoadedForTheLane x = new LoadedForTheLane();
            String was = Sentences.seen(x);
            int[] above = {6, 10, 10, 1000};
            for (int what = 0; what <= 3; what++) {
                due.is("set(" + what + ", " + above[what] + ")", x.set(what, above[what]), -6);
                due.is("set(" + what + ", MAX)", x.set(what, MAX), -6);
            }
            due.same("all", Sentences.seen(x), was);
            due.refusals(x, 0, 0, 0, 0, 8);
        });
        of.promise(8, refused, "-2 comes first", due -> {
            LoadedForTheLane x = new LoadedForTheLane();
            due.is("set(4, -1)", x.set(4, -1), -2);
            due.is("set(-1, 1000)", x.set(-1, 1000), -2);
            due.refusals(x, 0, 2, 0, 0, 0);
        });
    }

    /** SHIFT of the last LAYER told at a PIECE told. */
    private static int shiftOf(Sentences.Due due, String layers, String piece) {
        LoadedForTheLane x = due.loaded(layers, piece);
        return x.shift(piece.charAt(1) - '0', 0, x.count(0) - 1);
    }

    private void kindsOfPieces() {
        String slope = "PIECES, KINDS, SHIFT of a LAYER k (FIGURE f): s SLOPE: LOAD times (f less 10 and LEAN, the sum"
            + " of both without its sign) by 40, cut.";
        of.terms(9, slope, "the sum is 0, just below, just above", due -> {
            due.is("10 and 0", shiftOf(due, "yl040+0;", "w0s101;"), 0);
            due.is("15 and -5", shiftOf(due, "yl040-5;", "w0s151;"), 0);
            due.is("5 and 5", shiftOf(due, "yl040+5;", "w0s051;"), 0);
            due.is("9 and 0", shiftOf(due, "yl040+0;", "w0s091;"), 1);
            due.is("11 and 0", shiftOf(due, "yl040+0;", "w0s111;"), 1);
            due.is("10 and -1", shiftOf(due, "yl040-1;", "w0s101;"), 1);
            due.is("11 and -2", shiftOf(due, "yl040-2;", "w0s111;"), 1);
        });
        of.terms(9, slope, "the greatest sum of either sign, cut", due -> {
            due.is("0 and -5: 10 * 15 by 40", shiftOf(due, "yl010-5;", "w0s001;"), 3);
            due.is("20 and 5: 10 * 15 by 40", shiftOf(due, "yl010+5;", "w0s201;"), 3);
            due.is("0 and 5: 40 * 5 by 40", shiftOf(due, "yl040+5;", "w0s001;"), 5);
            due.is("20 and -5: 40 * 5 by 40", shiftOf(due, "yl040-5;", "w0s201;"), 5);
            due.is("30 * 1 by 40", shiftOf(due, "yl030+0;", "w0s111;"), 0);
        });
        of.terms(9, slope, "the greatest LOAD", due -> {
            LoadedForTheLane x = due.layers(11, "yw200-5;");
            due.is("load", Sentences.load(x, "w0s001;"), 1);
            due.is("3080 * 15 by 40", x.shift(0, 0, 0), 1155);
            due.is("280 * 15 by 40", x.shift(0, 0, 10), 105);
        });
        of.terms(9, "d DIP under SLOPE: LOAD times f by 60, cut.", "f of 0 and 20, cut, whatever LEAN", due -> {
            due.is("0", shiftOf(due, "yl200+5;", "w0d001;"), 0);
            due.is("10 * 20 by 60", shiftOf(due, "yl010-5;", "w0d201;"), 3);
            due.is("10 * 5 by 60", shiftOf(due, "yl010+5;", "w0d051;"), 0);
            due.is("10 * 6 by 60", shiftOf(due, "yl010+5;", "w0d061;"), 1);
            LoadedForTheLane x = due.layers(11, "yw209-5;");
            due.is("load", Sentences.load(x, "w0d201;"), 1);
            due.is("3080 * 20 by 60", x.shift(0, 0, 0), 1026);
        });
        of.terms(9, "j JERK under DIP: a DIP's times (k and 1) by 3, cut.", "k of 0, 1, 2 and 10, cut twice", due -> {
            LoadedForTheLane x = due.layers(11, LAYER);
            due.is("load", Sentences.load(x, "w0j201;w1j001;"), 2);
            due.is("110 * 20 by 60 is 36, times 1 by 3", x.shift(0, 0, 0), 12);
            due.is("100 * 20 by 60 is 33, times 2 by 3", x.shift(0, 0, 1), 22);
            due.is("90 * 20 by 60 is 30, times 3 by 3", x.shift(0, 0, 2), 30);
            due.is("20 * 20 by 60 is 6, times 10 by 3", x.shift(0, 0, 9), 20);
            due.is("10 * 20 by 60 is 3, times 11 by 3", x.shift(0, 0, 10), 11);
            due.is("0 times 11 by 3", x.shift(1, 0, 10), 0);
        });
        of.terms(9, "j JERK under DIP: a DIP's times (k and 1) by 3, cut.", "the greatest LOADS", due -> {
            LoadedForTheLane x = due.layers(11, "yw209+5;");
            due.is("load", Sentences.load(x, "w0j201;"), 1);
            due.is("3080 * 20 by 60 is 1026, times 1 by 3", x.shift(0, 0, 0), 342);
            due.is("1680 * 20 by 60 is 560, times 6 by 3", x.shift(0, 0, 5), 1120);
            due.is("280 * 20 by 60 is 93, times 11 by 3", x.shift(0, 0, 10), 341);
        });
        of.terms(9, "b BEND under SLOPE: LOAD times (f and OUT) by 50, cut.", "OUT of 0 and 9, f of 0 and 20, cut",
            due -> {
                due.is("0 and 0", shiftOf(due, "yl200+5;", "w0b001;"), 0);
                due.is("10 * 4 by 50", shiftOf(due, "yl014+0;", "w0b001;"), 0);
                due.is("10 * 5 by 50", shiftOf(due, "yl015+0;", "w0b001;"), 1);
                due.is("10 * 9 by 50", shiftOf(due, "yl019+0;", "w0b001;"), 1);
                due.is("10 * 29 by 50", shiftOf(due, "yl019-5;", "w0b201;"), 5);
                LoadedForTheLane x = due.layers(11, "yw209+0;");
                due.is("load", Sentences.load(x, "w0b201;"), 1);
                due.is("3080 * 29 by 50", x.shift(0, 0, 0), 1786);
            });
    }

    private void branchesAndGates() {
        String branch = "r BRANCH: no SHIFT, but if HEIGHT is above 40 and 4 f, it slips at the top LAYER.";
        of.terms(10, branch, "HEIGHT just so holds, one more slips: f of 0", due -> {
            LoadedForTheLane x = due.layers(5, "yw010+0;");
            due.is("load", Sentences.load(x, "w0r001;"), 1);
            due.is("HEIGHT", x.count(3), 40);
            due.is("40 holds", x.slips(0, 1), -9);
            due.is("load", Sentences.load(x, "u;yl010+0;"), 2);
            due.is("HEIGHT", x.count(3), 41);
            due.is("41 slips", x.slips(0, 1), 4);
            due.is("SHIFT", x.shift(0, 0, 4), 0);
        });
        of.terms(10, branch, "HEIGHT just so holds, one more slips: f of 19, a full wagon", due -> {
            LoadedForTheLane x = due.layers(9, "yo010+0;");
            due.is("load", Sentences.load(x, "w0r191;r5;yl010+0;yw010+0;"), 4);
            due.is("HEIGHT", x.count(3), 116);
            due.is("116 holds", x.slips(0, 1), -9);
            due.is("load", Sentences.load(x, "u;yl010+0;"), 2);
            due.is("HEIGHT", x.count(3), 117);
            due.is("117 slips", x.slips(0, 1), 10);
        });
        of.terms(10, branch, "f of 20 is 120", due -> {
            LoadedForTheLane x = due.layers(10, "yo010+0;");
            due.is("load", Sentences.load(x, "w0r201;yl010+0;"), 2);
            due.is("119 holds", x.slips(0, 1), -9);
            due.is("load", Sentences.load(x, "u;yo010+0;"), 2);
            due.is("121 slips", x.slips(0, 1), 10);
        });
        of.terms(10, branch, "without LAYERS it holds; ROPES are nothing to it", due -> {
            due.is("without", due.loaded("w0r001;").slips(0, 0), -9);
            LoadedForTheLane x = due.layers(5, LAYER);
            due.is("load", Sentences.load(x, "r5;w0r011;"), 2);
            due.is("45 with ROPES", x.slips(0, 1), 4);
        });
        String gate = "g GATE under BRANCH: no SHIFT, but if WIDTH is above 90 and f, it slips at the LAYER with the"
            + " greatest OUT, of several the least (without LAYERS it holds).";
        of.terms(10, gate, "WIDTH just so holds, one more slips", due -> {
            LoadedForTheLane x = due.loaded("yl010+0;w0g061;w1g051;r5;");
            due.is("96 at 96 holds", x.slips(0, 1), -9);
            due.is("96 at 95 slips", x.slips(1, 1), 0);
            due.is("SHIFT", x.shift(1, 0, 0), 0);
            x.out(0, 1);
            due.is("98 at 96 slips", x.slips(0, 1), 0);
        });
        of.terms(10, gate, "f of 0 and 20", due -> {
            LoadedForTheLane x = due.loaded("yl010+0;yl017+0;w0g001;w1g201;");
            due.is("110 at 90 slips", x.slips(0, 1), 1);
            due.is("110 at 110 holds", x.slips(1, 1), -9);
            x.out(0, 8);
            due.is("112 at 110 slips", x.slips(1, 1), 0);
        });
        of.terms(10, gate, "of several the least; the first, the last LAYER", due -> {
            LoadedForTheLane x = due.layers(11, LAYER);
            due.is("load", Sentences.load(x, "w0g001;"), 1);
            due.is("all of 0: the first", x.slips(0, 1), 0);
            x.out(10, 9);
            due.is("the last", x.slips(0, 1), 10);
            x.out(3, 9);
            due.is("the 4th and the last", x.slips(0, 1), 3);
            x.out(2, 8);
            due.is("the 3rd is less", x.slips(0, 1), 3);
        });
        of.terms(10, gate, "without LAYERS", due -> {
            LoadedForTheLane x = due.loaded("w0g001;");
            due.is("slips(0, 0)", x.slips(0, 0), -9);
            due.is("slips(0, 1)", x.slips(0, 1), -9);
        });
    }

    private void shift() {
        of.promise(9, "SHIFT (0 at a BRANCH, a GATE).", "that slip, too", due -> {
            LoadedForTheLane x = due.layers(5, "yl019+0;");
            due.is("load", Sentences.load(x, "w0r001;w0g001;"), 2);
            for (int layer = 0; layer < 5; layer++) {
                due.is("BRANCH", x.shift(0, 0, layer), 0);
                due.is("GATE", x.shift(0, 1, layer), 0);
            }
        });
        of.promise(9, "SHIFT (0 at a BRANCH, a GATE).", "the last PIECE, the last LAYER", due -> {
            LoadedForTheLane x = due.layers(11, LAYER);
            due.is("load", Sentences.load(x, Sentences.times(5, "w1s101;") + "w1d061;"), 6);
            due.is("shift(1, 5, 10)", x.shift(1, 5, 10), 1);
            due.is("shift(1, 0, 0)", x.shift(1, 0, 0), 0);
        });
        of.promise(9, "-1 each.", "no WAY, no PIECE, no LAYER, on each side", due -> {
            LoadedForTheLane x = due.loaded(LAYER + LAYER + "w0s101;w0s101;w1s101;");
            due.is("all are there", x.shift(0, 1, 1), 0);
            int[][] none = {{-1, 0, 0}, {2, 0, 0}, {MIN, 0, 0}, {MAX, 0, 0}, {0, -1, 0}, {0, 2, 0}, {1, 1, 0},
                {0, MIN, 0}, {0, MAX, 0}, {0, 0, -1}, {0, 0, 2}, {0, 0, MIN}, {0, 0, MAX}, {2, 2, 2}};
            for (int[] n : none) {
                due.is("shift(" + n[0] + ", " + n[1] + ", " + n[2] + ")", x.shift(n[0], n[1], n[2]), -1);
            }
            due.refusals(x, none.length, 0, 0, 0, 0);
        });
        of.promise(9, "-1 each.", "an empty wagon, an empty WAY, a full one of each", due -> {
            due.is("no LAYERS", due.loaded("w0s101;").shift(0, 0, 0), -1);
            due.is("no PIECES", due.loaded(LAYER).shift(0, 0, 0), -1);
            LoadedForTheLane x = due.layers(11, LAYER);
            due.is("load", Sentences.load(x, Sentences.times(6, "w0s101;")), 6);
            due.is("the last ones", x.shift(0, 5, 10), 0);
            due.is("behind the last PIECE", x.shift(0, 6, 10), -1);
            due.is("behind the last LAYER", x.shift(0, 5, 11), -1);
        });
    }
}
