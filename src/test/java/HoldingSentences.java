/** Promises 10 to 18, 24 and 25: what holds, what slips, and how it could be otherwise. */
final class HoldingSentences {
    private static final int MIN = Integer.MIN_VALUE;
    private static final int MAX = Integer.MAX_VALUE;
    private static final int WIDE = 1000000000;
    private static final String LAYER = "yl010+0;";
    /** BINDING 0; a LOAD of 150, so that a BEND's SHIFT is three times (f and OUT). The one above binds 55. */
    private static final String WEAK = "yh045+0;yl110+0;";

    private interface Call {
        long of(LoadedForTheLane x, int way);
    }

    private final Sentences of;

    HoldingSentences(Sentences of) {
        this.of = of;
    }

    void all() {
        holds();
        slips();
        margin();
        high();
        more();
        farOut();
        leaning();
        enough();
        home();
        which();
        fell();
        whose();
    }

    /** A WAY that isn't there, on each side, is refused by -1. */
    private void wayIsThere(int number, String sentence, int told, String wagon, Call call) {
        of.promise(number, sentence, "-1: the first WAY that is not there on each side", due -> {
            LoadedForTheLane x = due.loaded(wagon);
            String was = Sentences.seen(x);
            call.of(x, 0);
            call.of(x, 1);
            due.refusals(x, 0, 0, 0, 0, 0);
            due.is("WAY 2", call.of(x, 2), told);
            due.is("WAY -1", call.of(x, -1), told);
            due.is("WAY MAX", call.of(x, MAX), told);
            due.is("WAY MIN", call.of(x, MIN), told);
            due.refusals(x, 4, 0, 0, 0, 0);
            due.same("all", Sentences.seen(x), was);
        });
    }

    private void holds() {
        String holds = "A LAYER HOLDS a PIECE, if SHIFT is no more than BINDING and 15 for each of ROPES.";
        of.terms(10, holds, "just as much holds, one more slips", due -> {
            due.is("14 * 3 * 15 by 40 is 15, of 15", due.loaded("yw030-5;w0s001;").slips(0, 0), -9);
            due.is("14 * 4 * 15 by 40 is 21, of 20", due.loaded("yw040-5;w0s001;").slips(0, 0), 0);
            due.is("25 of 25", due.loaded("yl055+0;w0b201;").slips(0, 0), -9);
            due.is("26 of 25", due.loaded("yl056+0;w0b201;").slips(0, 0), 0);
        });
        of.terms(10, holds, "SHIFT 0 of BINDING 0", due -> {
            due.is("0 of 0", due.loaded("yh040+0;w0d001;").slips(0, 0), -9);
            due.is("1 of 0", due.loaded("yh040+0;w0d021;").slips(0, 0), 0);
        });
        of.terms(10, holds, "one of ROPES", due -> {
            due.is("17 of 2 and 15", due.loaded("yh050+0;w0b171;r1;").slips(0, 0), -9);
            due.is("18 of 2 and 15", due.loaded("yh050+0;w0b181;r1;").slips(0, 0), 0);
        });
        of.terms(10, holds, "five of ROPES", due -> {
            due.is("75 of 0 and 75", due.loaded(WEAK + "w0b201;r5;").slips(0, 0), -9);
            due.is("78 of 0 and 75", due.loaded("yh046+0;yl110+0;w0b201;r5;").slips(0, 0), 0);
            due.is("75 of 0 and 60", due.loaded(WEAK + "w0b201;r4;").slips(0, 0), 0);
        });
    }

    private void slips() {
        String slips = "It SLIPS at the first PIECE, at the least LAYER, that is not held.";
        of.terms(10, slips, "the first PIECE comes first, whatever a later one does to a lesser LAYER", due -> {
            // LOADS 240, 40 of BINDINGS 50, 0. The SLOPE moves only the leaning LAYER.
            LoadedForTheLane x = due.loaded("yo200+0;yh040+5;", "w0s101;w0d201;w1d201;w1s101;");
            due.is("slips(0, 0)", x.slips(0, 0), 0);
            due.is("slips(0, 1)", x.slips(0, 1), 1);
            due.is("slips(1, 0)", x.slips(1, 0), 0);
            due.is("slips(1, 1)", x.slips(1, 1), 0);
        });
        of.terms(10, slips, "the last PIECE, the last LAYER", due -> {
            LoadedForTheLane x = due.layers(11, LAYER);
            due.is("load", Sentences.load(x, Sentences.times(5, "w0r151;") + "w0r141;"), 6);
            due.is("slips(0, 0)", x.slips(0, 0), 5);
            due.is("slips(0, 1)", x.slips(0, 1), 10);
        });
        of.terms(10, "SLIPS on a WAY: the PIECE; the LAYER; -9 it holds.", "an empty wagon, an empty WAY", due -> {
            LoadedForTheLane x = due.loaded("w0s201;w0d201;w0j201;w0b201;w0r001;w0g001;");
            due.is("no LAYERS", x.slips(0, 0), -9);
            due.is("no LAYERS, no PIECES", x.slips(1, 1), -9);
            due.is("no PIECES", due.loaded("yh049+5;").slips(0, 1), -9);
        });
        of.promise(10, "SLIPS: the PIECE (what 0), the LAYER (1); -9.", "-9 is no REFUSAL", due -> {
            LoadedForTheLane x = due.loaded(LAYER);
            due.is("slips(0, 0)", x.slips(0, 0), -9);
            due.is("slips(0, 1)", x.slips(0, 1), -9);
            due.refusals(x, 0, 0, 0, 0, 0);
        });
        of.promise(10, "SLIPS: the PIECE (what 0), the LAYER (1); -9.", "PIECE 1, LAYER 0; PIECE 0, LAYER 1", due -> {
            LoadedForTheLane x = due.loaded("yl010+0;yh040+0;", "w0d001;w0d201;w1d021;");
            due.is("slips(0, 0)", x.slips(0, 0), 1);
            due.is("slips(0, 1)", x.slips(0, 1), 0);
            due.is("slips(1, 0)", x.slips(1, 0), 0);
            due.is("slips(1, 1)", x.slips(1, 1), 1);
        });
        wayIsThere(10, "-1; -2.", -1, LAYER, (x, way) -> x.slips(way, 0));
        of.promise(10, "-1; -2.", "-2: the first what that is none on each side", due -> {
            LoadedForTheLane x = due.loaded(LAYER + "w0g001;");
            due.is("slips(0, -1)", x.slips(0, -1), -2);
            due.is("slips(0, 2)", x.slips(0, 2), -2);
            due.is("slips(1, MIN)", x.slips(1, MIN), -2);
            due.is("slips(1, MAX)", x.slips(1, MAX), -2);
            due.refusals(x, 0, 4, 0, 0, 0);
        });
        of.promise(10, "-1; -2.", "-1 comes first", due -> {
            LoadedForTheLane x = new LoadedForTheLane();
            due.is("slips(2, 2)", x.slips(2, 2), -1);
            due.is("slips(-1, -1)", x.slips(-1, -1), -1);
            due.refusals(x, 2, 0, 0, 0, 0);
        });
    }

    private void margin() {
        String margin = "MARGIN on a WAY: over all LAYERS and PIECES (but BRANCHES, GATES) the least of BINDING and"
            + " ROPES' 15 each less SHIFT (may be below 0; 9999 there are none).";
        of.terms(11, margin, "there are none", due -> {
            due.is("nothing", new LoadedForTheLane().margin(0), 9999);
            due.is("no LAYERS", due.loaded("w0s001;").margin(0), 9999);
            due.is("no PIECES", due.loaded(LAYER).margin(0), 9999);
            due.is("BRANCHES, GATES", due.loaded(LAYER + "w1r001;w1g001;").margin(1), 9999);
            due.is("ROPES alone", due.loaded("r5;").margin(0), 9999);
        });
        of.terms(11, margin, "just 0, just below, just above", due -> {
            due.is("0", due.loaded("yw030-5;w0s001;").margin(0), 0);
            due.is("-1", due.loaded("yw040-5;w0s001;").margin(0), -1);
            due.is("1", due.loaded("yl054+0;w0b201;").margin(0), 1);
        });
        of.terms(11, margin, "no more than BINDING, 15 for each of ROPES", due -> {
            LoadedForTheLane x = due.loaded("yl200+0;w0d001;");
            due.is("no ROPES", x.margin(0), 100);
            x.set(0, 1);
            due.is("one", x.margin(0), 115);
            x.set(0, 5);
            due.is("five", x.margin(0), 175);
        });
        of.terms(11, margin, "a full wagon, far below 0", due -> {
            LoadedForTheLane x = due.layers(1, "yh049+0;");
            for (int i = 1; i <= 10; i++) {
                due.is("load", Sentences.load(x, "yw200+0;"), 1);
            }
            due.is("load", Sentences.load(x, "w0b201;"), 1);
            due.is("2840 * 29 by 50 of 0", x.margin(0), -1647);
            x.set(0, 5);
            due.is("with five ROPES", x.margin(0), -1572);
        });
        of.terms(11, margin, "the last LAYER at the last PIECE of a full WAY, behind a BRANCH", due -> {
            LoadedForTheLane x = due.loaded("yl200+0;yl010+0;", "w0d001;w0d001;w0d001;w0g201;w0r201;w0b201;");
            due.is("10 * 20 by 50 of 5", x.margin(0), 1);
        });
        of.promise(11, "MARGIN.", "of each WAY", due -> {
            LoadedForTheLane x = due.loaded("yl050+0;w0d001;w1b201;");
            due.is("margin(0)", x.margin(0), 25);
            due.is("margin(1)", x.margin(1), 5);
        });
        wayIsThere(11, "Refused as told: -1.", WIDE + 1, LAYER + "w0s001;", (x, way) -> x.margin(way));
    }

    private void high() {
        String high = "HIGH: how many of the LAYERS, from the first on, hold a WAY (the most: 0 .. all).";
        of.terms(12, high, "none of some, none of none", due -> {
            due.is("none of one", due.loaded(LAYER + "w0g051;").high(0), 0);
            due.is("none of none", due.loaded("w0g001;").high(0), 0);
            due.is("none of eleven", hurriedOnes(due).high(0), 0);
        });
        of.terms(12, high, "all of eleven, ten of eleven, four of eleven, one of two", due -> {
            LoadedForTheLane x = due.layers(11, LAYER);
            due.is("load", Sentences.load(x, "w0r151;w1r141;"), 2);
            due.is("99 at 100", x.high(0), 11);
            due.is("90 at 96", x.high(1), 10);
            due.is("load", Sentences.load(x, "w0r001;"), 1);
            due.is("36 at 40", x.high(0), 4);
            due.is("count(0)", x.count(0), 11);
            due.is("one of two", due.loaded("yl010+0;yl011+0;w0g061;").high(0), 1);
        });
        of.terms(12, high, "without PIECES all", due -> due.is("high(1)", hurriedOnes(due).high(1), 11));
        of.promise(12, "HIGH.", "as the wagon is now: behind off(), out(), set()", due -> {
            LoadedForTheLane x = due.layers(3, "yh050+0;");
            due.is("load", Sentences.load(x, "w0g061;w1b171;"), 2);
            due.is("three of 3", x.high(0), 3);
            x.off();
            due.is("two of 2", x.high(0), 2);
            x.out(1, 1);
            due.is("one of 2", x.high(0), 1);
            due.is("none of 2", x.high(1), 0);
            x.set(0, 1);
            due.is("one of 2 with a ROPE", x.high(1), 1);
        });
        of.promise(12, "HIGH.", "the wagon stays", due -> {
            LoadedForTheLane x = due.loaded("yl010+0;yb205-3;w0g061;r1;");
            String was = Sentences.seen(x);
            due.is("high(0)", x.high(0), 1);
            due.same("all", Sentences.seen(x), was);
        });
        wayIsThere(12, "-1.", -1, LAYER + "w0g001;", (x, way) -> x.high(way));
    }

    /** Eleven HURRIED LAYERS of BINDING 0, none of which holds the BEND of WAY 0: SHIFTS 44, 40, .. 4. */
    private static LoadedForTheLane hurriedOnes(Sentences.Due due) {
        LoadedForTheLane x = due.layers(11, "yh010+0;");
        due.is("load", Sentences.load(x, "w0b201;"), 1);
        return x;
    }

    private void more() {
        String more = "MORE: whether it holds with one LAYER more like the top one: 1, 0.";
        of.terms(13, more, "just holds, just not", due -> {
            // HEIGHT 36 with one more at 40; 45 with two more.
            LoadedForTheLane x = due.layers(3, LAYER);
            due.is("load", Sentences.load(x, "w0r001;"), 1);
            due.is("four", x.more(0), 1);
            due.is("load", Sentences.load(x, LAYER), 1);
            due.is("it holds", x.slips(0, 0), -9);
            due.is("five", x.more(0), 0);
        });
        of.terms(13, more, "like the top one in KIND", due -> {
            due.is("THICK: 29 and 11 at 40", due.loaded("yl010+0;yl010+0;yo010+0;w0r001;").more(0), 1);
            due.is("THICK: 31 and 11 at 40", due.loaded("yl010+0;yo010+0;yo010+0;w0r001;").more(0), 0);
        });
        of.terms(13, more, "like the top one in WEIGHT", due -> {
            // LOADS of the first (BINDING 50) 340, with one more 480.
            LoadedForTheLane x = due.loaded("yo200+0;yw100+0;w0b051;w1b061;");
            due.is("34 of 50", x.slips(0, 0), -9);
            due.is("40 of 50", x.slips(1, 0), -9);
            due.is("48 of 50", x.more(0), 1);
            due.is("57 of 50", x.more(1), 0);
        });
        of.terms(13, more, "a load that slips does so with one more", due -> {
            due.is("slips already", due.loaded(LAYER + "w0g051;").more(0), 0);
        });
        String full = "MORE (with 11 LAYERS, too).";
        of.promise(13, full, "a twelfth holds, a twelfth slips, none stays", due -> {
            LoadedForTheLane x = due.layers(11, LAYER);
            due.is("load", Sentences.load(x, "w0r171;w1r161;"), 2);
            String was = Sentences.seen(x);
            due.is("108 at 108", x.more(0), 1);
            due.is("99 at 104", x.slips(1, 0), -9);
            due.is("108 at 104", x.more(1), 0);
            due.same("all", Sentences.seen(x), was);
            due.is("layer(11, 0)", x.layer(11, 0), WIDE + 1);
        });
        of.promise(13, full, "the twelfth weighs upon the first", due -> {
            // LOADS of the first 640, with one more 690; BINDING 35 and ROPES' 30. The second: 500, 550 of 25 and 30.
            LoadedForTheLane x = due.loaded("yo140+0;r2;w0b051;w1b041;");
            for (int i = 1; i <= 10; i++) {
                due.is("load", Sentences.load(x, "yl050+0;"), 1);
            }
            due.is("64 of 65", x.slips(0, 0), -9);
            due.is("69 of 65", x.more(0), 0);
            due.is("55 of 65", x.more(1), 1);
        });
        of.promise(13, full, "as the wagon is now: behind off(), out(), set()", due -> {
            LoadedForTheLane x = due.layers(4, LAYER);
            due.is("load", Sentences.load(x, "w0r001;w1g061;"), 2);
            due.is("five", x.more(0), 0);
            x.off();
            due.is("four", x.more(0), 1);
            due.is("OUT 0", x.more(1), 1);
            x.out(1, 1);
            due.is("OUT 1", x.more(1), 0);
            // 100 * 7 by 50 is 14 of 0.
            LoadedForTheLane y = due.loaded("yh040+0;yl060+0;w0b071;");
            due.is("22 of 0", y.more(0), 0);
            y.set(0, 2);
            due.is("22 of 0 and two ROPES", y.more(0), 1);
            y.set(0, 1);
            due.is("22 of 0 and one", y.more(0), 0);
        });
        of.promise(13, "-1; -3 there are no LAYERS.", "-3: no LAYERS at first, none any more", due -> {
            LoadedForTheLane x = new LoadedForTheLane();
            due.is("none", x.more(0), -3);
            due.is("load", Sentences.load(x, LAYER), 1);
            due.is("one", x.more(0), 1);
            x.off();
            due.is("none any more", x.more(1), -3);
            due.refusals(x, 0, 0, 2, 0, 0);
        });
        of.promise(13, "-1; -3 there are no LAYERS.", "-1 comes first", due -> {
            LoadedForTheLane x = new LoadedForTheLane();
            due.is("more(2)", x.more(2), -1);
            due.is("more(-1)", x.more(-1), -1);
            due.refusals(x, 2, 0, 0, 0, 0);
        });
        wayIsThere(13, "-1; -3 there are no LAYERS.", -1, LAYER, (x, way) -> x.more(way));
    }

    private void farOut() {
        String far = "FAR OUT: the greatest OUT (0 .. 9) of a LAYER with which all holds a WAY; -9.";
        of.terms(14, far, "9, 0, none", due -> {
            due.is("9 without PIECES", due.loaded(LAYER).farOut(0, 0), 9);
            due.is("7 at 110", due.loaded("yl010+0;w0g201;").farOut(0, 0), 7);
            due.is("0 at 96", due.loaded("yl019+0;w0g061;").farOut(0, 0), 0);
            due.is("none at 95", due.loaded("yl010+0;w0g051;").farOut(0, 0), -9);
        });
        of.terms(14, far, "a BEND: just as far as it holds", due -> {
            // 50 * (20 and OUT) by 50 of 25; of 29 just 9.
            due.is("25 of 25", due.loaded("yl050+0;w0b201;").farOut(0, 0), 5);
            due.is("8", due.loaded("yl050+0;w0b171;").farOut(0, 0), 8);
            due.is("9", due.loaded("yl059+0;w0b161;").farOut(0, 0), 9);
        });
        of.terms(14, far, "all: another LAYER that slips is one too many", due -> {
            LoadedForTheLane x = due.loaded("yl010+0;yl014+0;w0g061;");
            due.is("the other is out", x.farOut(0, 0), -9);
            due.is("itself is out", x.farOut(0, 1), 0);
        });
        of.promise(14, "FAR OUT; -9.", "OUT stays; -9 is no REFUSAL", due -> {
            LoadedForTheLane x = due.loaded("yl014+0;w0g051;");
            String was = Sentences.seen(x);
            due.is("farOut(0, 0)", x.farOut(0, 0), -9);
            due.is("farOut(1, 0)", x.farOut(1, 0), 9);
            due.same("all", Sentences.seen(x), was);
            due.refusals(x, 0, 0, 0, 0, 0);
        });
        of.promise(14, "FAR OUT; -9.", "as the wagon is now: behind off(), out(), set()", due -> {
            LoadedForTheLane x = due.loaded("yl050+0;yl010+5;w0b201;");
            due.is("60 * 21 by 50 is 25, 60 * 22 by 50 is 26", x.farOut(0, 0), 1);
            x.off();
            due.is("50 * 25 by 50", x.farOut(0, 0), 5);
            x.out(0, 9);
            due.is("wherever it is now", x.farOut(0, 0), 5);
            x.set(0, 1);
            due.is("with a ROPE", x.farOut(0, 0), 9);
            LoadedForTheLane y = due.loaded(LAYER + LAYER + "w0g061;");
            due.is("OUT 0", y.farOut(0, 0), 0);
            y.out(1, 1);
            due.is("the other is out", y.farOut(0, 0), -9);
            due.is("the other itself", y.farOut(0, 1), 0);
            y.out(1, 0);
            due.is("the other is in again", y.farOut(0, 0), 0);
        });
        wayIsThere(14, "-1 either.", -1, LAYER, (x, way) -> x.farOut(way, 0));
        of.promise(14, "-1 either.", "-1: the first LAYER that is not there on each side", due -> {
            LoadedForTheLane x = due.layers(11, LAYER);
            due.is("farOut(0, 10)", x.farOut(0, 10), 9);
            due.is("farOut(0, 11)", x.farOut(0, 11), -1);
            due.is("farOut(0, -1)", x.farOut(0, -1), -1);
            due.is("farOut(0, MIN)", x.farOut(0, MIN), -1);
            due.is("farOut(0, MAX)", x.farOut(0, MAX), -1);
            due.is("neither", x.farOut(2, 11), -1);
            due.refusals(x, 5, 0, 0, 0, 0);
            due.is("an empty wagon", new LoadedForTheLane().farOut(0, 0), -1);
        });
    }

    private void leaning() {
        String leaning = "LEANING: the number (-5 .. 5) which, added to each LEAN (held to -5 .. 5), makes MARGIN"
            + " greatest, of several the least.";
        of.terms(15, leaning, "the least, the greatest, none to add", due -> {
            due.is("-5 of 5", due.loaded("yl200+0;w0s151;").leaning(0), -5);
            due.is("-5 of 10", due.loaded("yl200+0;w0s201;").leaning(0), -5);
            due.is("-4 of 4", due.loaded("yl200+0;w0s141;").leaning(0), -4);
            due.is("0", due.loaded("yl200+0;w0s101;").leaning(0), 0);
            due.is("4 of -4", due.loaded("yl200+0;w0s061;").leaning(0), 4);
            due.is("5 of -5", due.loaded("yl200+0;w0s051;").leaning(0), 5);
            due.is("5 of -10", due.loaded("yl200+0;w0s001;").leaning(0), 5);
        });
        of.terms(15, leaning, "LEAN is held to -5 .. 5", due -> {
            due.is("5 stays 5 with 0 .. 5", due.loaded("yl200+5;w0s001;").leaning(0), 0);
            due.is("4 becomes 5 with 1 .. 5", due.loaded("yl200+4;w0s001;").leaning(0), 1);
            due.is("-5 stays -5 with -5 .. 0", due.loaded("yl200-5;w0s201;").leaning(0), -5);
            due.is("5 becomes 0 with -5", due.loaded("yl200+5;w0s101;").leaning(0), -5);
            due.is("-5 becomes 0 with 5", due.loaded("yl200-5;w0s101;").leaning(0), 5);
        });
        of.terms(15, leaning, "of several the least", due -> {
            due.is("all alike: no PIECES", due.loaded("yl200+3;").leaning(0), -5);
            due.is("all alike: no LAYERS", due.loaded("w0s001;").leaning(0), -5);
            due.is("all alike: nothing", new LoadedForTheLane().leaning(1), -5);
            due.is("all alike: a DIP", due.loaded("yl200+3;w0d201;").leaning(0), -5);
            due.is("all alike: a GATE", due.loaded("yl200+3;w0g001;").leaning(0), -5);
            // 10 * 3 by 40 is cut to 0: -3 .. 3 are alike.
            due.is("alike where it is cut", due.loaded("yl010+0;w0s101;").leaning(0), -3);
            // Two SLOPES of 8 and 12: -2 .. 2 between them; the worse of both is least at 0.
            due.is("between two", due.loaded("yl200+0;w0s081;w0s121;").leaning(0), 0);
        });
        of.terms(15, leaning, "added to each LAYER's, a full wagon", due -> {
            LoadedForTheLane x = due.layers(11, "yw200-2;");
            due.is("load", Sentences.load(x, "w0s101;"), 1);
            due.is("leaning(0)", x.leaning(0), 2);
        });
        of.terms(15, leaning, "the greatest MARGIN, though each is far below 0", due -> {
            // 2840 times 15 .. 10 by 40 of 0; the LAYERS above need less and bind more.
            LoadedForTheLane x = due.layers(1, "yh040-5;");
            due.is("load", Sentences.load(x, Sentences.times(10, "yw200+0;") + "w0s001;"), 11);
            due.is("margin(0)", x.margin(0), -1065);
            due.is("leaning(0)", x.leaning(0), 5);
        });
        of.promise(15, "LEANING.", "as the wagon is now: behind off(), on()", due -> {
            LoadedForTheLane x = due.loaded("yl200+2;w0s101;");
            x.image();
            due.is("against 2", x.leaning(0), -2);
            due.is("load", Sentences.load(x, "u;yl200-3;"), 2);
            due.is("against -3", x.leaning(0), 3);
            x.on();
            due.is("against 2 again", x.leaning(0), -2);
            x.off();
            due.is("against nothing", x.leaning(0), -5);
        });
        of.promise(15, "LEANING.", "the wagon stays", due -> {
            LoadedForTheLane x = due.loaded("yl200+5;yb100-5;w0s011;r3;");
            String was = Sentences.seen(x);
            x.leaning(0);
            due.same("all", Sentences.seen(x), was);
        });
        wayIsThere(15, "Refused as told: -1.", WIDE + 1, LAYER + "w0s001;", (x, way) -> x.leaning(way));
    }

    private void enough() {
        String enough = "ENOUGH: the least ROPES (0 .. 5) with which it holds; -9.";
        of.terms(16, enough, "0 and 1: just as much, a little more", due -> {
            due.is("0 of 0", due.loaded("yh040+0;yl110+0;w0b001;").enough(0), 0);
            due.is("3 of 0", due.loaded("yh040+0;yl110+0;w0b011;").enough(0), 1);
            due.is("15 of 0", due.loaded("yh040+0;yl110+0;w0b051;").enough(0), 1);
            due.is("18 of 0", due.loaded("yh040+0;yl110+0;w0b061;").enough(0), 2);
        });
        of.terms(16, enough, "5 and none: just as much, a little more", due -> {
            due.is("60 of 0", due.loaded("yh040+0;yl110+0;w0b201;").enough(0), 4);
            due.is("63 of 0", due.loaded("yh041+0;yl110+0;w0b201;").enough(0), 5);
            due.is("75 of 0", due.loaded(WEAK + "w0b201;").enough(0), 5);
            due.is("78 of 0", due.loaded("yh046+0;yl110+0;w0b201;").enough(0), -9);
        });
        of.terms(16, enough, "no ROPES help at a BRANCH, a GATE; none are wanted for nothing", due -> {
            due.is("a GATE", due.loaded(LAYER + "w0g051;").enough(0), -9);
            due.is("nothing", new LoadedForTheLane().enough(1), 0);
        });
        of.promise(16, "ENOUGH; -9.", "whatever ROPES there are, and they stay", due -> {
            for (int ropes = 0; ropes <= 5; ropes++) {
                LoadedForTheLane x = due.loaded("yh040+0;yl110+0;w0b061;w1g051;r" + ropes + ";");
                due.is("enough(0)", x.enough(0), 2);
                due.is("enough(1)", x.enough(1), -9);
                due.is("count(7)", x.count(7), ropes);
                due.refusals(x, 0, 0, 0, 0, 0);
            }
        });
        of.promise(16, "ENOUGH; -9.", "as the wagon is now: behind off(), out()", due -> {
            // SHIFTS 150 * 10 by 50, 40 * 10 by 50, 40 * 19 by 50 of 0.
            LoadedForTheLane x = due.loaded("yh040+0;yl110+0;w0b101;");
            due.is("30", x.enough(0), 2);
            x.off();
            due.is("8", x.enough(0), 1);
            x.out(0, 9);
            due.is("15", x.enough(0), 1);
            due.is("load", Sentences.load(x, "yl110+0;"), 1);
            due.is("57", x.enough(0), 4);
            x.out(0, 0);
            due.is("30 again", x.enough(0), 2);
        });
        wayIsThere(16, "-1.", -1, LAYER + "w0g051;", (x, way) -> x.enough(way));
    }

    private void home() {
        String home = "HOME by a WAY: all MINUTES, if it holds; -9.";
        of.terms(17, home, "an empty WAY, a full one", due -> {
            due.is("0", due.loaded(LAYER).home(0), 0);
            due.is("54", due.loaded(LAYER + Sentences.times(6, "w1s109;")).home(1), 54);
            due.is("1", due.loaded("w0s101;").home(0), 1);
        });
        of.terms(17, home, "just holds, just not", due -> {
            due.is("25 of 25", due.loaded("yl055+0;w0b207;").home(0), 7);
            due.is("26 of 25", due.loaded("yl056+0;w0b207;").home(0), -9);
        });
        of.promise(17, "HOME; -9.", "-9 is no REFUSAL; an empty wagon is HOME, too", due -> {
            LoadedForTheLane x = due.loaded("w0g001;");
            due.is("empty", x.home(0), 1);
            due.is("load", Sentences.load(x, LAYER), 1);
            due.is("loaded", x.home(0), -9);
            due.refusals(x, 0, 0, 0, 0, 0);
        });
        wayIsThere(17, "-1.", -1, LAYER + "w0g051;", (x, way) -> x.home(way));
    }

    private void which() {
        String which = "WHICH: the WAY by which it is HOME soonest, of alike ones 0; -9.";
        of.terms(18, which, "alike, a minute sooner, a minute later", due -> {
            due.is("alike", due.loaded("w0s105;w1s105;").which(), 0);
            due.is("WAY 1 sooner", due.loaded("w0s106;w1s105;").which(), 1);
            due.is("WAY 0 sooner", due.loaded("w0s105;w1s106;").which(), 0);
            due.is("both empty", new LoadedForTheLane().which(), 0);
            due.is("WAY 1 empty", due.loaded("w0s101;").which(), 1);
            due.is("WAY 0 empty", due.loaded("w1s101;").which(), 0);
        });
        of.terms(18, which, "only one holds, none holds", due -> {
            due.is("WAY 0, though later", due.loaded(LAYER + "w0s109;w1g051;").which(), 0);
            due.is("WAY 1, though later", due.loaded(LAYER + "w0g051;w1s109;").which(), 1);
            due.is("none", due.loaded(LAYER + "w0g051;w1g051;").which(), -9);
        });
        of.promise(18, "WHICH; -9.", "-9 is no REFUSAL", due -> {
            LoadedForTheLane x = due.loaded(LAYER + "w0g051;w1g051;");
            due.is("which()", x.which(), -9);
            due.refusals(x, 0, 0, 0, 0, 0);
        });
    }

    private void fell() {
        String fell = "FELL: it slipped at a told PIECE of a WAY: LAYERS (bits) that would not hold there;";
        of.terms(24, fell, "all of eleven, the first eight, none", due -> {
            LoadedForTheLane x = hurriedOnes(due);
            due.is("all", x.fell(0, 0), 2047);
            x.set(0, 1);
            // SHIFTS 44, 40, .. 16 are above 15.
            due.is("above 15", x.fell(0, 0), 255);
            x.set(0, 2);
            // 44, 40, 36, 32.
            due.is("above 30", x.fell(0, 0), 15);
            x.set(0, 3);
            due.is("above 45", x.fell(0, 0), 0);
        });
        of.terms(24, fell, "the top LAYER of eleven at a BRANCH, the one farthest out at a GATE", due -> {
            LoadedForTheLane x = due.layers(11, LAYER);
            due.is("load", Sentences.load(x, "w0r141;w0g051;w0r151;w0g061;"), 4);
            due.is("BRANCH", x.fell(0, 0), 1024);
            due.is("GATE", x.fell(0, 1), 1);
            due.is("BRANCH that it holds", x.fell(0, 2), 0);
            due.is("GATE that it holds", x.fell(0, 3), 0);
            x.out(10, 9);
            due.is("GATE", x.fell(0, 1), 1024);
        });
        of.terms(24, fell, "an empty wagon", due -> {
            LoadedForTheLane x = due.loaded("w0s001;w0r001;w0g001;");
            for (int piece = 0; piece < 3; piece++) {
                due.is("piece " + piece, x.fell(0, piece), 0);
            }
        });
        of.promise(24, "FELL (bits).", "at a PIECE behind one at which it slips; the last of a full WAY", due -> {
            LoadedForTheLane x = due.loaded("yl010+0;yh040+0;", Sentences.times(5, "w0g001;") + "w0d021;");
            due.is("fell(0, 5)", x.fell(0, 5), 2);
        });
        wayIsThere(24, "-1 either.", -1, LAYER + "w0s101;w1s101;", (x, way) -> x.fell(way, 0));
        of.promise(24, "-1 either.", "-1: the first PIECE that is not there on each side", due -> {
            LoadedForTheLane x = due.loaded(LAYER, Sentences.times(6, "w0s101;"));
            due.is("fell(0, 5)", x.fell(0, 5), 0);
            noPieces(due, (y, piece) -> y.fell(0, piece), x);
            due.is("of an empty WAY", x.fell(1, 0), -1);
            due.is("neither", x.fell(2, 6), -1);
            due.refusals(x, 6, 0, 0, 0, 0);
        });
    }

    private static void noPieces(Sentences.Due due, Call call, LoadedForTheLane x) {
        due.is("PIECE 6", call.of(x, 6), -1);
        due.is("PIECE -1", call.of(x, -1), -1);
        due.is("PIECE MIN", call.of(x, MIN), -1);
        due.is("PIECE MAX", call.of(x, MAX), -1);
    }

    private void whose() {
        String whose = "WHOSE: that of these that lacks least to hold (SHIFT less BINDING and ROPES'; at a BRANCH, a GATE"
            + " the one), of several the least (-9 none).";
        of.terms(25, whose, "the last of eleven, the eighth with a ROPE, none", due -> {
            LoadedForTheLane x = hurriedOnes(due);
            due.is("lacks 4", x.whose(0, 0), 10);
            x.set(0, 1);
            due.is("lacks 16 less 15", x.whose(0, 0), 7);
            x.set(0, 2);
            due.is("lacks 32 less 30", x.whose(0, 0), 3);
            x.set(0, 3);
            due.is("none lacks", x.whose(0, 0), -9);
        });
        of.terms(25, whose, "the least lack, not the least SHIFT, nor the greatest BINDING", due -> {
            // A BEND: 100 * 22 by 50 is 44 of 40; 50 * 20 by 50 is 20 of 2.
            due.is("4 of the first, 18 of the second", due.loaded("yb052+0;yh050+0;w0b201;").whose(0, 0), 0);
            // 200 * 20 by 60 is 66 of 50; 100 * 20 by 60 is 33 of 15.
            due.is("16 of the first, 18 of the second", due.loaded("yl100+0;yh100+0;w0d201;").whose(0, 0), 0);
            // 210 * 20 by 60 is 70 of 50; 110 * 20 by 60 is 36 of 17.
            due.is("20 of the first, 19 of the second", due.loaded("yl100+0;yh110+0;w0d201;").whose(0, 0), 1);
        });
        of.terms(25, whose, "the least lack, though each is great", due -> {
            // A SLOPE moves the two leaning LAYERS alone: 2600 and 2560 times 5 by 40 of 0.
            LoadedForTheLane x = due.layers(2, "yh040+5;");
            due.is("load", Sentences.load(x, Sentences.times(9, "yw200+0;") + "w0s101;"), 10);
            due.is("fell(0, 0)", x.fell(0, 0), 3);
            due.is("325 of the first, 320 of the second", x.whose(0, 0), 1);
        });
        of.terms(25, whose, "of several the least", due -> {
            // A DIP's 6, 4, 2, times 1, 2, 3 by 3 are 2, 2, 2 of 0.
            due.is("three alike", due.loaded("yh010+0;yh010+0;yh010+0;w0j121;").whose(0, 0), 0);
            due.is("two alike", due.loaded("yl010+0;yh010+0;yh010+0;w0j121;").whose(0, 0), 1);
        });
        of.terms(25, whose, "a LAYER that just holds lacks nothing and is none of these", due -> {
            due.is("4 of 0, 1 of 5", due.loaded("yh030+0;yl010+0;w0b051;").whose(0, 0), 0);
            due.is("17 of 17", due.loaded("yh050+0;w0b171;r1;").whose(0, 0), -9);
            due.is("18 of 17", due.loaded("yh050+0;w0b181;r1;").whose(0, 0), 0);
        });
        of.terms(25, whose, "the one at a BRANCH, a GATE", due -> {
            LoadedForTheLane x = due.layers(11, LAYER);
            due.is("load", Sentences.load(x, "w0r141;w0g051;w0r151;w0g061;r5;"), 5);
            due.is("BRANCH", x.whose(0, 0), 10);
            due.is("GATE", x.whose(0, 1), 0);
            due.is("BRANCH that it holds", x.whose(0, 2), -9);
            due.is("GATE that it holds", x.whose(0, 3), -9);
            x.out(7, 1);
            x.out(8, 1);
            due.is("GATE, of several the least", x.whose(0, 1), 7);
        });
        of.promise(25, "WHOSE; -9.", "an empty wagon; -9 is no REFUSAL", due -> {
            LoadedForTheLane x = due.loaded("w0s001;w0r001;w0g001;");
            for (int piece = 0; piece < 3; piece++) {
                due.is("piece " + piece, x.whose(0, piece), -9);
            }
            due.refusals(x, 0, 0, 0, 0, 0);
        });
        wayIsThere(25, "-1 either.", -1, LAYER + "w0s101;w1s101;", (x, way) -> x.whose(way, 0));
        of.promise(25, "-1 either.", "-1: the first PIECE that is not there on each side", due -> {
            LoadedForTheLane x = due.loaded(LAYER, Sentences.times(6, "w0s101;"));
            due.is("whose(0, 5)", x.whose(0, 5), -9);
            noPieces(due, (y, piece) -> y.whose(0, piece), x);
            due.is("of an empty WAY", x.whose(1, 0), -1);
            due.is("neither", x.whose(2, 6), -1);
            due.refusals(x, 6, 0, 0, 0, 0);
        });
    }
}
