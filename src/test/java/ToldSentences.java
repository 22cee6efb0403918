/** Promises 26 to 32: the ROW, judging, lots, the image, counts; and what is said of all REFUSALS. */
final class ToldSentences {
    private static final int MIN = Integer.MIN_VALUE;
    private static final int MAX = Integer.MAX_VALUE;
    private static final int WIDE = 1000000000;
    private static final long LONG = 4000000000000000000L;
    private static final String LAYER = "yl010+0;";

    private final Sentences of;

    ToldSentences(Sentences of) {
        this.of = of;
    }

    void all() {
        boundBy();
        rowByTwos();
        boundByRefused();
        row();
        judge();
        judgedRow();
        lots();
        lotsNow();
        draws();
        lotsRefused();
        image();
        on();
        whatAnImageHolds();
        count();
        refusals();
        refusalsTold();
    }

    private static LoadedForTheLane told(int... numbers) {
        LoadedForTheLane x = new LoadedForTheLane();
        Sentences.rows(x, numbers);
        return x;
    }

    private static void bounds(Sentences.Due due, LoadedForTheLane x, int shift, int least, int greatest) {
        due.is("least of " + shift, x.boundBy(shift, 0), least);
        due.is("greatest of " + shift, x.boundBy(shift, 1), greatest);
    }

    private void boundBy() {
        String numbers = "the least, the greatest number c (0 .. 20: what a SHEAF binds) by which all of it is so (they hold"
            + " just if SHEAVES times c is no less than SHIFT); -9 none.";
        of.terms(26, numbers, "just no less holds, one more doesn't", due -> {
            bounds(due, told(10, 1), 40, 4, 20);
            bounds(due, told(10, 1), 41, 5, 20);
            bounds(due, told(10, 0), 40, 0, 3);
            bounds(due, told(10, 0), 41, 0, 4);
        });
        of.terms(26, numbers, "c of 0: only at SHIFT 0", due -> {
            bounds(due, told(10, 1), 0, 0, 20);
            bounds(due, told(10, 0), 0, -9, -9);
            bounds(due, told(10, 0), 1, 0, 0);
            bounds(due, told(0, 1), 0, 0, 20);
            bounds(due, told(0, 0), 0, -9, -9);
            bounds(due, told(0, 1), 1, -9, -9);
            bounds(due, told(0, 0), 1, 0, 20);
        });
        of.terms(26, numbers, "c of 20: just so, one too many", due -> {
            bounds(due, told(10, 1), 200, 20, 20);
            bounds(due, told(10, 1), 201, -9, -9);
            bounds(due, told(10, 0), 200, 0, 19);
            bounds(due, told(10, 0), 201, 0, 20);
        });
        of.terms(26, numbers, "99 SHEAVES, SHIFT 999", due -> {
            bounds(due, told(99, 1), 999, 11, 20);
            bounds(due, told(99, 0), 999, 0, 10);
            bounds(due, told(50, 1), 999, 20, 20);
            bounds(due, told(49, 1), 999, -9, -9);
        });
        of.terms(26, numbers, "all of it: one number alone, none", due -> {
            bounds(due, told(10, 1, 9, 0), 90, 9, 9);
            bounds(due, told(10, 1, 9, 0), 80, 8, 8);
            bounds(due, told(10, 1, 10, 0), 80, -9, -9);
            bounds(due, told(9, 1, 10, 0), 80, -9, -9);
        });
    }

    private void rowByTwos() {
        String twos = "BOUND BY: a ROW by twos (none at all are twos, too) tells SHEAVES and 1 (they held) or 0 (not) at a"
            + " told SHIFT:";
        of.terms(26, twos, "none at all", due -> {
            bounds(due, told(), 0, 0, 20);
            bounds(due, told(), 999, 0, 20);
        });
        of.terms(26, twos, "1 of SHEAVES is none of the second ones", due -> {
            bounds(due, told(10, 1, 1, 0), 5, 1, 4);
            bounds(due, told(1, 0, 1, 0), 5, 0, 4);
        });
        of.terms(26, twos, "a full ROW of six twos; each two counts", due -> {
            bounds(due, told(10, 1, 11, 1, 12, 1, 4, 0, 3, 0, 2, 0), 60, 6, 14);
            bounds(due, told(10, 1, 11, 1, 12, 1, 4, 0, 3, 0, 9, 0), 60, 6, 6);
            bounds(due, told(10, 1, 11, 1, 5, 1, 4, 0, 3, 0, 9, 0), 60, -9, -9);
        });
        of.promise(26, "BOUND BY: the least (what 0), the greatest (1); -9 (the ROW stays).",
            "whether there is a number or none; -9 is no REFUSAL", due -> {
                LoadedForTheLane x = told(10, 1);
                bounds(due, x, 35, 4, 20);
                due.is("count(8)", x.count(8), 2);
                bounds(due, x, 999, -9, -9);
                due.is("count(8)", x.count(8), 2);
                bounds(due, x, 35, 4, 20);
                due.refusals(x, 0, 0, 0, 0, 0);
            });
    }

    private void boundByRefused() {
        String refused = "-4; -6 999; -2; -3 the ROW has not twos, or a second one is no 0, 1.";
        of.promise(26, refused, "-4 below 0, -6 above 999", due -> {
            LoadedForTheLane x = told();
            due.is("0", x.boundBy(0, 0), 0);
            due.is("-1", x.boundBy(-1, 0), -4);
            due.is("MIN", x.boundBy(MIN, 0), -4);
            due.is("999", x.boundBy(999, 0), 0);
            due.is("1000", x.boundBy(1000, 0), -6);
            due.is("MAX", x.boundBy(MAX, 0), -6);
            due.refusals(x, 0, 0, 0, 2, 2);
        });
        of.promise(26, refused, "-2: the first what that is none on each side", due -> {
            LoadedForTheLane x = told();
            due.is("-1", x.boundBy(0, -1), -2);
            due.is("2", x.boundBy(0, 2), -2);
            due.is("MIN", x.boundBy(0, MIN), -2);
            due.is("MAX", x.boundBy(0, MAX), -2);
            due.refusals(x, 0, 4, 0, 0, 0);
        });
        of.promise(26, refused, "-3: one number, three, eleven; twelve are twos", due -> {
            LoadedForTheLane x = told(1);
            due.is("one", x.boundBy(0, 0), -3);
            Sentences.rows(x, 1);
            due.is("two", x.boundBy(0, 0), 0);
            Sentences.rows(x, 1);
            due.is("three", x.boundBy(0, 0), -3);
            Sentences.rows(x, 1, 1, 1, 1, 1, 1, 1, 1);
            due.is("count(8)", x.count(8), 11);
            due.is("eleven", x.boundBy(0, 1), -3);
            Sentences.rows(x, 1);
            due.is("twelve", x.boundBy(0, 1), 20);
            due.is("count(8)", x.count(8), 12);
            due.refusals(x, 0, 0, 3, 0, 0);
        });
        of.promise(26, refused, "-3: a second one is no 0, 1: the first, the last two; a first one may be", due -> {
            due.is("2", told(1, 2).boundBy(5, 0), -3);
            due.is("99", told(1, 99).boundBy(5, 0), -3);
            due.is("in the last of six", told(1, 1, 1, 1, 1, 1, 1, 1, 1, 1, 1, 2).boundBy(5, 0), -3);
            due.is("in the first of six", told(1, 2, 1, 1, 1, 1, 1, 1, 1, 1, 1, 1).boundBy(5, 0), -3);
            due.is("behind one that is never so", told(0, 1, 1, 2).boundBy(5, 0), -3);
            due.is("a first one of 2", told(2, 1).boundBy(4, 0), 2);
        });
        of.promise(26, refused, "-4 or -6, then -2, then -3; the ROW stays", due -> {
            LoadedForTheLane x = told(1);
            due.is("-4 ahead of -2", x.boundBy(-1, 2), -4);
            due.is("-6 ahead of -2", x.boundBy(1000, -1), -6);
            due.is("-4 ahead of -3", x.boundBy(-1, 0), -4);
            due.is("-6 ahead of -3", x.boundBy(1000, 1), -6);
            due.is("-2 ahead of -3", x.boundBy(0, 2), -2);
            due.is("-3", x.boundBy(0, 0), -3);
            due.is("count(8)", x.count(8), 1);
            due.refusals(x, 0, 1, 1, 2, 2);
        });
    }

    private void row() {
        of.promise(27, "A number more of the ROW (0 .. 99): how many.", "the least, the greatest; from none to 12", due -> {
            LoadedForTheLane x = new LoadedForTheLane();
            due.is("count(8)", x.count(8), 0);
            due.is("row(0)", x.row(0), 1);
            due.is("row(99)", x.row(99), 2);
            for (int n = 3; n <= 12; n++) {
                due.is("row " + n, x.row(n), n);
            }
            due.is("count(8)", x.count(8), 12);
            due.refusals(x, 0, 0, 0, 0, 0);
        });
        of.promise(27, "-4; -6 (99; 12, too).", "the first beyond on each side; none is kept", due -> {
            LoadedForTheLane x = new LoadedForTheLane();
            due.is("row(-1)", x.row(-1), -4);
            due.is("row(MIN)", x.row(MIN), -4);
            due.is("row(100)", x.row(100), -6);
            due.is("row(MAX)", x.row(MAX), -6);
            due.is("count(8)", x.count(8), 0);
            due.refusals(x, 0, 0, 0, 2, 2);
        });
        of.promise(27, "-4; -6 (99; 12, too).", "the 12th is taken, the 13th is not; -4 comes first", due -> {
            LoadedForTheLane x = told(1, 1, 1, 1, 1, 1, 1, 1, 1, 1, 1);
            due.is("the 12th", x.row(1), 12);
            due.is("the 13th", x.row(1), -6);
            due.is("the 13th, above", x.row(100), -6);
            due.is("the 13th, below", x.row(-1), -4);
            due.is("count(8)", x.count(8), 12);
            due.refusals(x, 0, 0, 0, 1, 2);
        });
        of.promise(27, "A number more of the ROW (0 .. 99): how many.", "room again, when judge has taken it", due -> {
            LoadedForTheLane x = told(1, 1, 1, 1, 1, 1, 1, 1, 1, 1, 1, 1);
            x.judge(0);
            due.is("row(1)", x.row(1), 1);
        });
    }

    /** BINDINGS 0, 100, ..; the first LAYER slips with 0 .. 7 ROPES (SHIFT 113 of 0) and holds with 8. */
    private static LoadedForTheLane heavy(Sentences.Due due) {
        LoadedForTheLane x = due.loaded("yh040+0;w0b021;");
        for (int i = 1; i <= 10; i++) {
            due.is("load", Sentences.load(x, "yw200+0;"), 1);
        }
        return x;
    }

    /** A full ROW: LAYER 0 so many times, then 99. */
    private static int[] slipsThenHolds(int slips) {
        int[] numbers = new int[12];
        for (int i = slips; i < 12; i++) {
            numbers[i] = 99;
        }
        return numbers;
    }

    private static long judged(LoadedForTheLane x, int way, int... numbers) {
        Sentences.rows(x, numbers);
        return x.judge(way);
    }

    private void judge() {
        String judged = "JUDGED: the ROW as the LAYERS (99: it holds) at which the load SLIPS on a WAY with 0, 1, 2, .. ROPES"
            + " (as if there were none now): the first that is not so; -9.";
        of.terms(28, judged, "an empty ROW, a ROW of one", due -> {
            LoadedForTheLane x = due.loaded(LAYER + "w0g051;");
            due.is("empty", x.judge(0), -9);
            due.is("slips", judged(x, 0, 0), -9);
            due.is("holds", judged(x, 1, 99), -9);
            due.is("told to hold and slips", judged(x, 0, 99), 0);
            due.is("told to slip and holds", judged(x, 1, 0), 0);
        });
        of.terms(28, judged, "a full ROW, up to 11 ROPES: all so, the last not, the first not", due -> {
            LoadedForTheLane x = heavy(due);
            due.is("all so", judged(x, 0, slipsThenHolds(8)), -9);
            due.is("the eighth not", judged(x, 0, slipsThenHolds(7)), 7);
            due.is("the ninth not", judged(x, 0, slipsThenHolds(9)), 8);
            due.is("the ninth and others not", judged(x, 0, slipsThenHolds(12)), 8);
            int[] lastNot = slipsThenHolds(8);
            lastNot[11] = 0;
            due.is("the last not", judged(x, 0, lastNot), 11);
            int[] firstNot = slipsThenHolds(8);
            firstNot[0] = 1;
            firstNot[11] = 0;
            due.is("the first and the last not", judged(x, 0, firstNot), 0);
        });
        of.terms(28, judged, "as if there were none now", due -> {
            for (int ropes = 0; ropes <= 5; ropes++) {
                LoadedForTheLane x = heavy(due);
                x.set(0, ropes);
                due.is("with " + ropes, judged(x, 0, 0, 0, 0, 0, 0, 0, 0, 0, 99), -9);
                due.is("ROPES stay", x.count(7), ropes);
            }
        });
        of.terms(28, judged, "the top LAYER of eleven; one that is not there", due -> {
            LoadedForTheLane x = due.layers(11, LAYER);
            due.is("load", Sentences.load(x, "w0r141;"), 1);
            due.is("10", judged(x, 0, 10, 10, 10, 10, 10, 10, 10, 10, 10, 10, 10, 10), -9);
            due.is("11 is not there", judged(x, 0, 10, 11), 1);
            due.is("98 is not 99", judged(x, 1, 99, 98), 1);
        });
        of.terms(28, judged, "the load as it is now: behind off(), out(), on()", due -> {
            LoadedForTheLane x = due.loaded(LAYER + LAYER + "w0g061;");
            x.image();
            due.is("holds", judged(x, 0, 99), -9);
            x.out(1, 1);
            due.is("slips at 1", judged(x, 0, 1), -9);
            x.off();
            due.is("holds", judged(x, 0, 99), -9);
            x.out(0, 1);
            due.is("slips at 0", judged(x, 0, 0), -9);
            x.on();
            due.is("holds", judged(x, 0, 99), -9);
        });
        of.terms(28, judged, "an empty wagon holds", due -> {
            due.is("99", judged(new LoadedForTheLane(), 0, 99, 99), -9);
            due.is("0", judged(new LoadedForTheLane(), 0, 0), 0);
        });
    }

    private void judgedRow() {
        String none = "JUDGED; -9 (whichever it answers, the ROW has none then).";
        of.promise(28, none, "behind -9 and behind a number; -9 is no REFUSAL", due -> {
            LoadedForTheLane x = due.loaded(LAYER);
            due.is("all so", judged(x, 0, 99, 99), -9);
            due.is("count(8)", x.count(8), 0);
            due.is("the first not", judged(x, 0, 1, 99, 99), 0);
            due.is("count(8)", x.count(8), 0);
            due.is("none", x.judge(0), -9);
            due.refusals(x, 0, 0, 0, 0, 0);
        });
        of.promise(28, "-1.", "the first WAY that is not there on each side; the ROW stays", due -> {
            LoadedForTheLane x = told(99, 1, 99);
            due.is("judge(2)", x.judge(2), -1);
            due.is("judge(-1)", x.judge(-1), -1);
            due.is("judge(MIN)", x.judge(MIN), -1);
            due.is("judge(MAX)", x.judge(MAX), -1);
            due.is("count(8)", x.count(8), 3);
            due.refusals(x, 4, 0, 0, 0, 0);
            due.is("judge(1)", x.judge(1), 1);
        });
    }

    private void lots() {
        String lots = "LOTS with a seed z: n loads (1 .. 30) on a WAY, each LAYER with OUT, LEAN as DRAWS (OUT below 10, LEAN"
            + " below 11 less 5): how many hold.";
        of.terms(29, lots, "n of 1 and 30: all hold, none holds", due -> {
            LoadedForTheLane x = due.loaded(LAYER + "w0g001;");
            due.is("none of 1", x.lots(0, 1, 0), 0);
            due.is("none of 30", x.lots(0, 30, 0), 0);
            due.is("all of 1", x.lots(1, 1, 0), 1);
            due.is("all of 30", x.lots(1, 30, 0), 30);
            due.is("all of 30 empty wagons", due.loaded("w0g001;").lots(0, 30, 0), 30);
        });
        of.terms(29, lots, "the seed goes on from load to load: OUTS 3, 6, 9, 4, 4, 7 of seed 0", due -> {
            LoadedForTheLane x = due.loaded(LAYER + "w0g121;w1g141;");
            int[] upTo3 = {1, 1, 1, 1, 1, 1};
            int[] upTo4 = {1, 1, 1, 2, 3, 3};
            for (int n = 1; n <= 6; n++) {
                due.is("OUT up to 3, n of " + n, x.lots(0, n, 0), upTo3[n - 1]);
                due.is("OUT up to 4, n of " + n, x.lots(1, n, 0), upTo4[n - 1]);
            }
        });
        of.terms(29, lots, "LEANS 2, 4, 5, 0, 3, -1 of seed 0, each behind an OUT", due -> {
            // BINDING 0, LOAD 40: it holds a SLOPE of f just with LEAN 10 less f.
            int[] lean = {2, 4, 5, 0, 3, -1};
            for (int n = 1; n <= 6; n++) {
                int f = 10 - lean[n - 1];
                LoadedForTheLane x = due.loaded("yh040+0;w0s" + (f < 10 ? "0" : "") + f + "1;");
                due.is("not yet, n of " + (n - 1), n == 1 ? 0 : x.lots(0, n - 1, 0), 0);
                due.is("n of " + n, x.lots(0, n, 0), 1);
            }
        });
        of.terms(29, lots, "two LAYERS: (3, 2) (6, 4), (9, 5) (4, 0), (4, 3) (7, -1), (3, 0) (3, 4) of seed 0", due -> {
            LoadedForTheLane x = due.loaded(LAYER + LAYER + "w0g121;w1g181;");
            int[] upTo3 = {0, 0, 0, 1};
            int[] upTo6 = {1, 1, 1, 2};
            for (int n = 1; n <= 4; n++) {
                due.is("OUT up to 3, n of " + n, x.lots(0, n, 0), upTo3[n - 1]);
                due.is("OUT up to 6, n of " + n, x.lots(1, n, 0), upTo6[n - 1]);
            }
        });
    }

    private void lotsNow() {
        of.promise(29, "LOTS.", "as the wagon is now, but OUT, LEAN: behind off(), out(), set()", due -> {
            // OUTS 3, 6 of two LAYERS by seed 0, 3 of one.
            LoadedForTheLane x = due.loaded(LAYER + LAYER + "w0g121;w1b201;");
            due.is("two", x.lots(0, 1, 0), 0);
            x.off();
            due.is("one", x.lots(0, 1, 0), 1);
            x.out(0, 9);
            due.is("wherever it is now", x.lots(0, 1, 0), 1);
            // 40 * 23 by 50 is 18 of 0.
            LoadedForTheLane y = due.loaded("yh040+0;w0b201;");
            due.is("no ROPES", y.lots(0, 1, 0), 0);
            y.set(0, 1);
            due.is("one", y.lots(0, 1, 0), 0);
            y.set(0, 2);
            due.is("two", y.lots(0, 1, 0), 1);
        });
    }

    private void firstDraws(Sentences.Due due, int seed, int out, int lean) {
        for (int v = 0; v <= 7; v++) {
            LoadedForTheLane x = due.loaded(LAYER + "w0g" + (v < 2 ? "0" : "") + (6 + 2 * v) + "1;");
            due.is("OUT of seed " + seed + " up to " + v, x.lots(0, 1, seed), out <= v ? 1 : 0);
        }
        for (int v = 5; v <= 9; v++) {
            // A BEND of LOAD 50 shifts f and OUT, of BINDING 25.
            LoadedForTheLane x = due.loaded("yl050+0;w0b" + (25 - v) + "1;");
            due.is("OUT of seed " + seed + " up to " + v, x.lots(0, 1, seed), out <= v ? 1 : 0);
        }
        for (int l = -5; l <= 5; l++) {
            int f = 10 - l;
            LoadedForTheLane x = due.loaded("yh040+0;w0s" + (f < 10 ? "0" : "") + f + "1;");
            due.is("LEAN of seed " + seed + " is " + l, x.lots(0, 1, seed), l == lean ? 1 : 0);
        }
    }

    private void draws() {
        String draw = "A DRAW below m: z becomes z times 1664525 and 1013904223 (an int); (z without its sign's bit by 256,"
            + " cut) modulo m.";
        of.terms(29, draw, "the least and the greatest OUT, LEAN", due -> {
            firstDraws(due, 13, 0, 4);
            firstDraws(due, 3, 9, 0);
            firstDraws(due, 6, 5, -5);
            firstDraws(due, 4, 1, 5);
        });
        of.terms(29, draw, "the int wraps around, with and without its sign's bit", due -> {
            firstDraws(due, 700, 0, 0);
            firstDraws(due, 1000, 6, 1);
            firstDraws(due, 1290, 0, -3);
            firstDraws(due, 2000, 8, 3);
            firstDraws(due, 100000, 5, -4);
        });
        of.terms(29, draw, "seeds at the ends of an int", due -> {
            firstDraws(due, 0, 3, 2);
            firstDraws(due, -1, 1, -4);
            firstDraws(due, MAX, 1, -4);
            firstDraws(due, MIN, 3, 2);
            due.is("no seed is refused", due.loaded(LAYER).lots(0, 30, MIN), 30);
        });
    }

    private void lotsRefused() {
        of.promise(29, "LOTS.", "the wagon stays", due -> {
            LoadedForTheLane x = due.loaded("yl204+3;yb101-2;w0s151;r2;");
            String was = Sentences.seen(x);
            x.lots(0, 30, 77);
            due.same("all", Sentences.seen(x), was);
            due.is("again alike", x.lots(0, 30, 77), x.lots(0, 30, 77));
            due.refusals(x, 0, 0, 0, 0, 0);
        });
        of.promise(29, "-1; -4; -6 30.", "-1: the first WAY that is not there on each side", due -> {
            LoadedForTheLane x = due.loaded(LAYER);
            due.is("lots(2, 1, 0)", x.lots(2, 1, 0), -1);
            due.is("lots(-1, 1, 0)", x.lots(-1, 1, 0), -1);
            due.is("lots(MIN, 1, 0)", x.lots(MIN, 1, 0), -1);
            due.is("lots(MAX, 1, 0)", x.lots(MAX, 1, 0), -1);
            due.refusals(x, 4, 0, 0, 0, 0);
        });
        of.promise(29, "-1; -4; -6 30.", "-4: n of 0; -6: n of 31", due -> {
            LoadedForTheLane x = due.loaded(LAYER);
            due.is("n of 0", x.lots(0, 0, 0), -4);
            due.is("n of MIN", x.lots(0, MIN, 0), -4);
            due.is("n of 31", x.lots(0, 31, 0), -6);
            due.is("n of MAX", x.lots(0, MAX, 0), -6);
            due.refusals(x, 0, 0, 0, 2, 2);
        });
        of.promise(29, "-1; -4; -6 30.", "-1 comes first", due -> {
            LoadedForTheLane x = new LoadedForTheLane();
            due.is("ahead of -4", x.lots(2, 0, 0), -1);
            due.is("ahead of -6", x.lots(-1, 31, 0), -1);
            due.refusals(x, 2, 0, 0, 0, 0);
        });
    }

    private void image() {
        of.promise(30, "THE IMAGE is taken: how many LAYERS.", "of an empty wagon, of a full one", due -> {
            LoadedForTheLane x = new LoadedForTheLane();
            due.is("empty", x.image(), 0);
            due.is("load", Sentences.load(x, Sentences.times(11, LAYER)), 11);
            due.is("full", x.image(), 11);
            due.is("count(0)", x.count(0), 11);
        });
        of.promise(30, "THE IMAGE is taken: how many LAYERS.", "the last one taken is the one", due -> {
            LoadedForTheLane x = due.loaded("yl010+0;yl020+0;");
            due.is("image()", x.image(), 2);
            x.off();
            due.is("image()", x.image(), 1);
            x.off();
            due.is("on()", x.on(), 1);
            due.is("SHEAVES", x.count(6), 1);
        });
    }

    private void on() {
        of.promise(31, "ON from it: how many LAYERS.", "to a full wagon, to an empty one", due -> {
            LoadedForTheLane x = due.layers(11, LAYER);
            x.image();
            for (int i = 0; i < 11; i++) {
                x.off();
            }
            due.is("to a full one", x.on(), 11);
            due.is("count(0)", x.count(0), 11);
            LoadedForTheLane y = new LoadedForTheLane();
            y.image();
            due.is("load", Sentences.load(y, LAYER), 1);
            due.is("to an empty one", y.on(), 0);
            due.is("count(0)", y.count(0), 0);
        });
        of.promise(31, "ON from it: how many LAYERS.", "again and again", due -> {
            LoadedForTheLane x = due.loaded(LAYER);
            x.image();
            for (int i = 0; i < 3; i++) {
                due.is("off()", x.off(), 0);
                due.is("on()", x.on(), 1);
            }
        });
        of.promise(31, "-3 there is none.", "at first", due -> {
            LoadedForTheLane x = due.loaded(LAYER);
            due.is("on()", x.on(), -3);
            due.is("on()", x.on(), -3);
            due.is("count(0)", x.count(0), 1);
            due.refusals(x, 0, 0, 2, 0, 0);
            x.image();
            due.is("behind image()", x.on(), 1);
        });
    }

    private void whatAnImageHolds() {
        String all = "THE IMAGE: all that there is, but it, the ROW, letters, REFUSALS; ON from it all is as then.";
        of.terms(31, all, "LAYERS, WAYS and settings are as then", due -> {
            LoadedForTheLane x = due.loaded("yt123-4;yh201+5;", "w0s001;w0g209;w1b105;r3;k56;f78;");
            String was = Sentences.seen(x);
            x.image();
            due.is("load", Sentences.load(x, "u;yl010+0;yl010+0;w0d011;w1d011;w1d011;r5;k11;f0;"), 9);
            x.out(0, 9);
            x.set(0, 1);
            due.is("on()", x.on(), 2);
            due.same("all", Sentences.seen(x), was);
        });
        of.terms(31, all, "what is done then doesn't change it", due -> {
            LoadedForTheLane x = due.loaded("yt123-4;w0s001;");
            String was = Sentences.seen(x);
            x.image();
            x.on();
            x.out(0, 9);
            x.set(3, 1);
            due.is("load", Sentences.load(x, "yl010+0;w0s001;w1s001;r5;"), 4);
            due.is("on()", x.on(), 1);
            due.same("all", Sentences.seen(x), was);
        });
        of.terms(31, all, "not the ROW", due -> {
            LoadedForTheLane x = told(1, 1);
            x.image();
            Sentences.rows(x, 2, 0);
            x.on();
            due.is("count(8)", x.count(8), 4);
            due.is("boundBy(2, 0)", x.boundBy(2, 0), -9);
            x.judge(0);
            x.on();
            due.is("count(8)", x.count(8), 0);
        });
        of.terms(31, all, "not the letters", due -> {
            LoadedForTheLane x = new LoadedForTheLane();
            Sentences.tell(x, "r");
            x.image();
            Sentences.tell(x, "4;");
            x.on();
            due.is("count(9)", x.count(9), 3);
            due.is("load()", x.load(), 1);
            x.on();
            due.is("count(9)", x.count(9), 0);
            due.is("count(7)", x.count(7), 0);
        });
        of.terms(31, all, "not REFUSALS", due -> {
            LoadedForTheLane x = new LoadedForTheLane();
            x.off();
            x.image();
            x.slips(2, 0);
            x.on();
            due.refusals(x, 1, 0, 1, 0, 0);
        });
        of.terms(31, all, "not itself: the image is there behind on()", due -> {
            LoadedForTheLane x = new LoadedForTheLane();
            x.image();
            due.is("on()", x.on(), 0);
            due.is("on()", x.on(), 0);
            due.refusals(x, 0, 0, 0, 0, 0);
        });
    }

    private void count() {
        String counts = "0 LAYERS, 1, 2 PIECES of WAY 0, 1, 3 HEIGHT, 4 WIDTH, 5 all WEIGHT, 6 all SHEAVES, 7 ROPES, 8 in the"
            + " ROW, 9 letters, 11 .. 16 REFUSALS -1 .. -6.";
        of.promise(32, counts, "empty", due -> {
            int[] want = {0, 0, 0, 0, 96, 0, 0, 0, 0, 0};
            for (int what = 0; what <= 9; what++) {
                due.is("count(" + what + ")", new LoadedForTheLane().count(what), want[what]);
            }
        });
        of.promise(32, counts, "all full", due -> {
            LoadedForTheLane x = due.layers(11, "yw209+0;");
            due.is("load", Sentences.load(x, Sentences.times(6, "w0s001;")), 6);
            due.is("load", Sentences.load(x, Sentences.times(6, "w1s001;") + "r5;"), 7);
            Sentences.rows(x, 1, 1, 1, 1, 1, 1, 1, 1, 1, 1, 1, 1);
            Sentences.tell(x, Sentences.times(96, "u"));
            int[] want = {11, 6, 6, 88, 114, 3080, 220, 5, 12, 96};
            for (int what = 0; what <= 9; what++) {
                due.is("count(" + what + ")", x.count(what), want[what]);
            }
        });
        of.promise(32, counts, "each REFUSAL by itself; -5 there is none", due -> {
            LoadedForTheLane x = new LoadedForTheLane();
            x.home(2);
            due.refusals(x, 1, 0, 0, 0, 0);
            x.set(4, 0);
            due.refusals(x, 1, 1, 0, 0, 0);
            x.off();
            due.refusals(x, 1, 1, 1, 0, 0);
            x.row(-1);
            due.refusals(x, 1, 1, 1, 1, 0);
            x.row(100);
            due.refusals(x, 1, 1, 1, 1, 1);
            x.row(100);
            due.refusals(x, 1, 1, 1, 1, 2);
        });
        of.promise(32, "-9 for another what.", "10, below 0, above 16; it is no REFUSAL", due -> {
            LoadedForTheLane x = new LoadedForTheLane();
            for (int what : new int[] {10, -1, 17, 100, MIN, MAX}) {
                due.is("count(" + what + ")", x.count(what), -9);
            }
            due.refusals(x, 0, 0, 0, 0, 0);
        });
    }

    private void refusals() {
        String first = "REFUSALS (the call answers the number, the first that fits in the order in which it tells them; nothing"
            + " changes but how many there were):";
        of.terms(32, first, "one of each call, one behind the other", due -> {
            LoadedForTheLane x = due.loaded("yl204+3;w0s101;w1g051;r2;k45;f6;");
            x.image();
            Sentences.rows(x, 1, 2, 3);
            Sentences.tell(x, "r");
            String was = Sentences.seen(x);
            due.is("letter", x.letter(256), -6);
            due.is("piece", x.piece(0, 1, 0), -1);
            due.is("out", x.out(0, 10), -6);
            due.is("set", x.set(0, 6), -6);
            due.is("shift", x.shift(0, 0, 1), -1);
            due.is("slips", x.slips(0, 2), -2);
            due.is("high", x.high(2), -1);
            due.is("more", x.more(2), -1);
            due.is("farOut", x.farOut(0, 1), -1);
            due.is("enough", x.enough(2), -1);
            due.is("home", x.home(2), -1);
            due.is("pitching", x.pitching(10), -6);
            due.is("quick", x.quick(2), -1);
            due.is("rounds", x.rounds(1, 1, 1), -3);
            due.is("fell", x.fell(0, 1), -1);
            due.is("whose", x.whose(0, 1), -1);
            due.is("boundBy", x.boundBy(0, 0), -3);
            due.is("row", x.row(100), -6);
            due.is("judge", x.judge(2), -1);
            due.is("lots", x.lots(0, 31, 0), -6);
            due.same("all", Sentences.seen(x), was);
            due.refusals(x, 11, 1, 2, 0, 6);
            due.is("the letters are as they were", x.letter('1') + 10 * x.letter(';') + 100 * x.load(), 132);
            due.is("the ROW is as it was", x.judge(0), 0);
            due.is("the image is as it was", x.on(), 1);
            due.same("all but ROW and letters", Sentences.seen(x), was.replace(" 2 3 1 ", " 2 0 0 "));
        });
        of.terms(32, "-1 NOBODY: no such LAYER, WAY, PIECE.", "each of them", due -> {
            LoadedForTheLane x = due.loaded(LAYER + "w0s101;");
            due.is("LAYER", x.out(1, 0), -1);
            due.is("WAY", x.home(2), -1);
            due.is("PIECE", x.fell(0, 1), -1);
            due.refusals(x, 3, 0, 0, 0, 0);
        });
        of.terms(32, "-2 OTHER: what, KIND.", "what", due -> {
            LoadedForTheLane x = due.loaded(LAYER + "w0s101;");
            due.is("piece", x.piece(0, 0, 3), -2);
            due.is("set", x.set(4, 0), -2);
            due.is("slips", x.slips(0, 2), -2);
            due.is("boundBy", x.boundBy(0, 2), -2);
            due.refusals(x, 0, 4, 0, 0, 0);
        });
        of.terms(32, "-3 STATE: it is not as it must be.", "no LAYERS, no image, no twos", due -> {
            LoadedForTheLane x = told(1);
            due.is("off", x.off(), -3);
            due.is("more", x.more(0), -3);
            due.is("rounds", x.rounds(0, 1, 0), -3);
            due.is("boundBy", x.boundBy(0, 0), -3);
            due.is("on", x.on(), -3);
            due.refusals(x, 0, 0, 5, 0, 0);
        });
        of.terms(32, "-4 BELOW: a number below the least.", "each call that tells it", due -> {
            LoadedForTheLane x = due.loaded(LAYER);
            due.is("letter", x.letter(-1), -4);
            due.is("out", x.out(0, -1), -4);
            due.is("set", x.set(0, -1), -4);
            due.is("pitching", x.pitching(0), -4);
            due.is("rounds", x.rounds(0, 0, 0), -4);
            due.is("worth", x.worth(0, 0, 0), WIDE + 4);
            due.is("thunder", x.thunder(0, -1, 0), LONG + 4);
            due.is("boundBy", x.boundBy(-1, 0), -4);
            due.is("row", x.row(-1), -4);
            due.is("lots", x.lots(0, 0, 0), -4);
            due.refusals(x, 0, 0, 0, 10, 0);
        });
        of.terms(32, "-6 ROOM: a number above the greatest, no room.", "each call that tells it", due -> {
            LoadedForTheLane x = due.loaded(LAYER);
            due.is("letter", x.letter(256), -6);
            due.is("out", x.out(0, 10), -6);
            due.is("set", x.set(0, 6), -6);
            due.is("pitching", x.pitching(10), -6);
            due.is("rounds", x.rounds(0, 5, 0), -6);
            due.is("worth", x.worth(0, 4, 0), WIDE + 6);
            due.is("thunder", x.thunder(0, 10, 0), LONG + 6);
            due.is("boundBy", x.boundBy(1000, 0), -6);
            due.is("row", x.row(100), -6);
            due.is("lots", x.lots(0, 31, 0), -6);
            due.refusals(x, 0, 0, 0, 0, 10);
        });
    }

    private void refusalsTold() {
        String wide = "Of margin(), leaning(), worth(), layer() REFUSALS are 1000000000 less them (-1 is told as 1000000001), of"
            + " longs 4000000000000000000 less them (-1 as 4000000000000000001).";
        of.terms(32, wide, "-1 of each, counted as -1", due -> {
            LoadedForTheLane x = new LoadedForTheLane();
            due.is("margin", x.margin(2), 1000000001);
            due.is("leaning", x.leaning(2), 1000000001);
            due.is("worth", x.worth(2, 1, 1), 1000000001);
            due.is("layer", x.layer(0, 0), 1000000001);
            due.is("thunder", x.thunder(2, 1, 0), 4000000000000000001L);
            due.refusals(x, 5, 0, 0, 0, 0);
        });
        of.terms(32, wide, "each other number of them, counted as it is", due -> {
            LoadedForTheLane x = due.loaded(LAYER + "w0g051;");
            due.is("-2 of layer", x.layer(0, 8), 1000000002);
            due.is("-3 of worth", x.worth(0, 1, 1), 1000000003);
            due.is("-4 of worth", x.worth(0, 0, 1), 1000000004);
            due.is("-6 of worth", x.worth(0, 4, 1), 1000000006);
            due.is("-2 of thunder", x.thunder(0, 0, 2), 4000000000000000002L);
            due.is("-4 of thunder", x.thunder(0, -1, 0), 4000000000000000004L);
            due.is("-6 of thunder", x.thunder(0, 10, 0), 4000000000000000006L);
            due.refusals(x, 0, 2, 1, 2, 2);
        });
        of.terms(32, wide, "an answer of -1 .. -6 is none of them", due -> {
            LoadedForTheLane x = due.loaded("yw040-5;w0s001;");
            due.is("MARGIN", x.margin(0), -1);
            due.is("LEAN", x.layer(0, 3), -5);
            due.is("LEANING", due.loaded("yl200+0;w0s121;").leaning(0), -2);
            due.refusals(x, 0, 0, 0, 0, 0);
        });
    }
}
