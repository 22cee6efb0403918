/** Promises 19 to 23: pitching, rounds, thunder. */
final class TimeSentences {
    private static final int MIN = Integer.MIN_VALUE;
    private static final int MAX = Integer.MAX_VALUE;
    private static final int WIDE = 1000000000;
    private static final long LONG = 4000000000000000000L;
    private static final String LAYER = "yl010+0;";

    private final Sentences of;

    TimeSentences(Sentences of) {
        this.of = of;
    }

    void all() {
        pitching();
        quick();
        quickRefused();
        rounds();
        roundsRefused();
        worth();
        worthRefused();
        thunder();
        thunderRefused();
    }

    private void pitching() {
        String pitching = "PITCHING: all SHEAVES by PITCH, rounded up: MINUTES;";
        of.terms(19, pitching, "an empty wagon, one SHEAF, a full wagon", due -> {
            LoadedForTheLane full = due.layers(11, "yl200+0;");
            int[] minutes = {220, 110, 74, 55, 44, 37, 32, 28, 25};
            for (int pitch = 1; pitch <= 9; pitch++) {
                due.is("none by " + pitch, new LoadedForTheLane().pitching(pitch), 0);
                due.is("one by " + pitch, due.loaded(LAYER).pitching(pitch), 1);
                due.is("220 by " + pitch, full.pitching(pitch), minutes[pitch - 1]);
            }
        });
        of.terms(19, pitching, "just even, one more, one less", due -> {
            due.is("9 by 9", due.loaded("yl090+0;").pitching(9), 1);
            due.is("10 by 9", due.loaded("yl100+0;").pitching(9), 2);
            due.is("8 by 9", due.loaded("yl080+0;").pitching(9), 1);
            due.is("18 of two LAYERS by 9", due.loaded("yl090+0;yl090+0;").pitching(9), 2);
            due.is("19 of two LAYERS by 9", due.loaded("yl090+0;yl100+0;").pitching(9), 3);
        });
        of.promise(19, "PITCHING: MINUTES by a PITCH.", "whatever SKILL and PITCH there are, and they stay", due -> {
            LoadedForTheLane x = due.loaded("yl200+0;k12;");
            String was = Sentences.seen(x);
            due.is("pitching(1)", x.pitching(1), 20);
            due.is("pitching(9)", x.pitching(9), 3);
            due.same("all", Sentences.seen(x), was);
        });
        of.promise(19, "-4 below 1; -6 9.", "the first beyond on each side", due -> {
            LoadedForTheLane x = due.loaded(LAYER);
            due.is("pitching(0)", x.pitching(0), -4);
            due.is("pitching(-1)", x.pitching(-1), -4);
            due.is("pitching(MIN)", x.pitching(MIN), -4);
            due.is("pitching(10)", x.pitching(10), -6);
            due.is("pitching(MAX)", x.pitching(MAX), -6);
            due.refusals(x, 0, 0, 0, 3, 2);
        });
    }

    private void quick() {
        String badly = "if PITCH is above SKILL, of each LAYER SHEAVES times (PITCH less SKILL) by 9, cut, lie badly:";
        of.terms(20, badly, "PITCH just at SKILL, one above", due -> {
            // 90 * 25 by 50 is 45 of 45; one lying badly makes it 41.
            due.is("SKILL 9", due.loaded("yl095+0;w0b201;k91;").quick(0), 9);
            due.is("SKILL 8: 2 MINUTES by 5 .. 8", due.loaded("yl095+0;w0b201;k81;").quick(0), 5);
            due.is("SKILL 5", due.loaded("yl095+0;w0b201;k51;").quick(0), 5);
            due.is("SKILL 4: 3 MINUTES by 3, 4", due.loaded("yl095+0;w0b201;k41;").quick(0), 3);
            due.is("SKILL 1", due.loaded("yl095+0;w0b201;k11;").quick(0), 1);
        });
        of.terms(20, badly, "PITCH below SKILL: no better", due -> {
            // 90 * 26 by 50 is 46 of 45.
            due.is("SKILL 9", due.loaded("yl096+0;w0b201;k91;").quick(0), -9);
        });
        of.terms(20, badly, "8 SHEAVES, one above: 8 by 9 is cut to none; two above: one", due -> {
            // 80 * 25 by 50 is 40 of 40.
            due.is("SKILL 7: 1 MINUTE by 8", due.loaded("yl085+0;w0b201;k71;").quick(0), 8);
            due.is("SKILL 6: 2 MINUTES by 4 .. 7", due.loaded("yl085+0;w0b201;k61;").quick(0), 4);
            due.is("SKILL 8: 1 MINUTE by 8", due.loaded("yl085+0;w0b201;k81;").quick(0), 8);
        });
        of.terms(20, badly, "of each LAYER by itself", due -> {
            // 4 and 4 SHEAVES: 4 * 2 by 9 is none of either, of 8 together it would be one. SHIFTS 32, 16 of 32, 20.
            due.is("cut in each", due.loaded("yb040+0;yl040+0;w0b201;k61;").quick(0), 8);
        });
        String less = "BINDING of it is 4 less for each, 0 at least (in QUICK alone):";
        of.terms(20, less, "4 less just holds", due -> {
            // 9 SHEAVES, SKILL 8, PITCH 9: 45 less 4. 90 * 23 by 50 is 41, 90 * 24 by 50 is 43.
            due.is("41 of 41", due.loaded("yl093+0;w0b201;k81;").quick(0), 9);
            due.is("43 of 41", due.loaded("yl094+0;w0b201;k81;").quick(0), 5);
        });
        of.terms(20, less, "4 less for each of ten, each PITCH by itself", due -> {
            // 18 SHEAVES, SKILL 4, PITCH 9: 10 lie badly: 90 less 40. 180 * 14 by 50 is 50, 180 * 15 by 50 is 54.
            due.is("50 of 50: 2 MINUTES by 9", due.loaded("yl180+0;w0b141;k41;").quick(0), 9);
            due.is("54 of 50: 3 MINUTES by 6 .. 8", due.loaded("yl180+0;w0b151;k41;").quick(0), 6);
        });
        of.terms(20, less, "0 at least", due -> {
            // 5 SHEAVES, SKILL 1, PITCH 5: 2 lie badly: 2 less 8.
            due.is("SHIFT 0 of 0", due.loaded("yh050+0;w0d001;k11;").quick(0), 5);
            due.is("SHIFT 15 of 0 and a ROPE", due.loaded("yh050+0;w0b151;k11;r1;").quick(0), 5);
            due.is("SHIFT 16 of 0 and a ROPE: PITCH 2", due.loaded("yh050+0;w0b161;k11;r1;").quick(0), 2);
        });
        of.terms(20, less, "in QUICK alone", due -> {
            LoadedForTheLane x = due.loaded("yl095+0;w0b201;k19;");
            String was = Sentences.seen(x);
            due.is("quick(0)", x.quick(0), 1);
            due.same("all", Sentences.seen(x), was);
            due.is("slips(0, 0)", x.slips(0, 0), -9);
            due.is("margin(0)", x.margin(0), 0);
            due.is("layer(0, 5)", x.layer(0, 5), 45);
        });
        String quick = "QUICK: the PITCH (1 .. 9) with which the load, so laid, holds a WAY in the fewest MINUTES, of several"
            + " the least; -9 with none.";
        of.terms(20, quick, "1, 9, none", due -> {
            due.is("an empty wagon", new LoadedForTheLane().quick(0), 1);
            due.is("one SHEAF", due.loaded(LAYER).quick(1), 1);
            due.is("9 SHEAVES", due.loaded("yl090+0;k91;").quick(0), 9);
            due.is("none holds", due.loaded(LAYER + "w0g051;").quick(0), -9);
        });
        of.terms(20, quick, "of several the least", due -> {
            due.is("5 SHEAVES: 1 MINUTE by 5 .. 9", due.loaded("yl050+0;k91;").quick(0), 5);
            due.is("10 SHEAVES: 2 MINUTES by 5 .. 9", due.loaded("yl100+0;k91;").quick(0), 5);
            due.is("20 SHEAVES: 3 MINUTES by 7 .. 9", due.loaded("yl200+0;k91;").quick(0), 7);
        });
        of.terms(20, quick, "a full wagon: 220 MINUTES by 1, for no other PITCH holds", due -> {
            // 2200 * 3 by 60 is 110 of 115; with PITCH 2 two SHEAVES lie badly: of 107.
            LoadedForTheLane x = due.layers(11, "yl200+0;");
            due.is("load", Sentences.load(x, "w0d031;r1;k11;"), 3);
            due.is("quick(0)", x.quick(0), 1);
            x.set(1, 2);
            due.is("SKILL 2", x.quick(0), 2);
        });
        of.terms(20, quick, "a full wagon: 25 MINUTES by 9 alone", due -> {
            LoadedForTheLane x = due.layers(11, "yl200+0;");
            due.is("quick(0)", x.quick(0), 9);
        });
    }

    private void quickRefused() {
        of.promise(20, "QUICK; -9.", "-9 is no REFUSAL; SKILL and PITCH stay", due -> {
            LoadedForTheLane x = due.loaded(LAYER + "w0g051;k23;");
            String was = Sentences.seen(x);
            due.is("quick(0)", x.quick(0), -9);
            due.is("quick(1)", x.quick(1), 1);
            due.same("all", Sentences.seen(x), was);
            due.refusals(x, 0, 0, 0, 0, 0);
        });
        of.promise(20, "QUICK; -9.", "as the wagon is now: behind off(), out(), set()", due -> {
            LoadedForTheLane x = due.loaded("yl095+0;yl010+0;w0b201;");
            due.is("it slips", x.quick(0), -9);
            x.off();
            due.is("45 of 45, SKILL 4", x.quick(0), 3);
            x.set(1, 9);
            due.is("45 of 45, SKILL 9", x.quick(0), 9);
            x.out(0, 6);
            due.is("46 of 45", x.quick(0), -9);
            x.set(0, 1);
            due.is("46 of 60", x.quick(0), 9);
        });
        of.promise(20, "-1.", "the first WAY that is not there on each side", due -> {
            LoadedForTheLane x = due.loaded(LAYER + "w0g051;");
            due.is("quick(2)", x.quick(2), -1);
            due.is("quick(-1)", x.quick(-1), -1);
            due.is("quick(MIN)", x.quick(MIN), -1);
            due.is("quick(MAX)", x.quick(MAX), -1);
            due.refusals(x, 4, 0, 0, 0, 0);
        });
    }

    /** 9 SHEAVES: 3 MINUTES to load, 5 to go. */
    private static LoadedForTheLane nine(Sentences.Due due) {
        return due.loaded("yl090+0;f999;", "w0s102;w0s103;w1g051;");
    }

    private void rounds() {
        String wagons = "ROUNDS: n WAGONS (1 .. 4) all loaded alike, one pitcher: who is there first is loaded first (of"
            + " several the least; one behind the other, in PITCHING's MINUTES by PITCH each), goes by a WAY, is unloaded"
            + " in as many MINUTES as it was loaded (several at once), comes back by the WAY, and so on:";
        of.terms(21, wagons, "one WAGON: home at 11, 27, 43", due -> {
            LoadedForTheLane x = nine(due);
            int[] at = {0, 10, 11, 26, 27, 42, 43};
            int[] home = {0, 0, 9, 9, 18, 18, 27};
            for (int i = 0; i < at.length; i++) {
                due.is("rounds(0, 1, " + at[i] + ")", x.rounds(0, 1, at[i]), home[i]);
            }
        });
        of.terms(21, wagons, "two WAGONS: home at 11, 14, 27, 30", due -> {
            LoadedForTheLane x = nine(due);
            int[] at = {10, 11, 13, 14, 26, 27, 29, 30};
            int[] home = {0, 9, 9, 18, 18, 27, 27, 36};
            for (int i = 0; i < at.length; i++) {
                due.is("rounds(0, 2, " + at[i] + ")", x.rounds(0, 2, at[i]), home[i]);
            }
        });
        of.terms(21, wagons, "four WAGONS: home at 11, 14, 17, 20, 27, 30, 33, 36", due -> {
            LoadedForTheLane x = nine(due);
            int[] at = {10, 11, 14, 17, 19, 20, 26, 27, 30, 33, 35, 36};
            int[] home = {0, 9, 18, 27, 27, 36, 36, 45, 54, 63, 63, 72};
            for (int i = 0; i < at.length; i++) {
                due.is("rounds(0, 4, " + at[i] + ")", x.rounds(0, 4, at[i]), home[i]);
            }
        });
        of.terms(21, wagons, "the pitcher is never without a WAGON: a minute each", due -> {
            // One SHEAF, no way to go: one WAGON home at 2, 4, ..; two at 2, 3, 4, ..
            LoadedForTheLane x = due.loaded(LAYER + "f999;");
            due.is("one", x.rounds(0, 1, 999), 499);
            due.is("two", x.rounds(0, 2, 999), 998);
            due.is("four", x.rounds(0, 4, 999), 998);
            due.is("one till 998", x.rounds(0, 1, 998), 499);
            due.is("one till 997", x.rounds(0, 1, 997), 498);
        });
        String many = "how many SHEAVES are HOME (unloaded whole) in T MINUTES (0 .. 999), no more than FIELD;";
        of.terms(21, many, "T of 0, 1, 2", due -> {
            LoadedForTheLane x = due.loaded(LAYER);
            due.is("0", x.rounds(0, 4, 0), 0);
            due.is("1", x.rounds(0, 4, 1), 0);
            due.is("2", x.rounds(0, 4, 2), 1);
        });
        of.terms(21, many, "a full wagon by PITCH 1: home at 440", due -> {
            LoadedForTheLane x = due.layers(11, "yl200+0;");
            due.is("load", Sentences.load(x, "k91;f999;"), 2);
            due.is("439", x.rounds(0, 1, 439), 0);
            due.is("440", x.rounds(0, 1, 440), 220);
            due.is("two till 659", x.rounds(0, 2, 659), 220);
            due.is("two till 660", x.rounds(0, 2, 660), 440);
        });
        of.terms(21, many, "FIELD just as many, one less, one more, none", due -> {
            LoadedForTheLane x = nine(due);
            int[] fields = {0, 1, 17, 18, 19, 999};
            int[] home = {0, 1, 17, 18, 18, 18};
            for (int i = 0; i < fields.length; i++) {
                x.set(3, fields[i]);
                due.is("FIELD " + fields[i], x.rounds(0, 1, 27), home[i]);
                due.is("FIELD stays", x.set(3, fields[i]), fields[i]);
            }
        });
        of.terms(21, many, "the greatest way: six PIECES of 9 MINUTES", due -> {
            // 1 to load, 54 to go, 1 to unload, 54 back: home at 56, 166.
            LoadedForTheLane x = due.loaded(LAYER, Sentences.times(6, "w1s109;"));
            due.is("55", x.rounds(1, 1, 55), 0);
            due.is("56", x.rounds(1, 1, 56), 1);
            due.is("165", x.rounds(1, 1, 165), 1);
            due.is("166", x.rounds(1, 1, 166), 2);
        });
        of.promise(21, "ROUNDS (by SKILL, PITCH as they are; the load as it is).", "PITCH 1 and 9, SKILL 1 and 9", due -> {
            LoadedForTheLane x = due.loaded("yl095+0;w1b201;k11;f999;");
            due.is("PITCH 1: not at 18", x.rounds(1, 1, 18), 0);
            due.is("PITCH 1: home at 19", x.rounds(1, 1, 19), 9);
            x.set(2, 9);
            due.is("PITCH 9: not at 2", x.rounds(1, 1, 2), 0);
            due.is("PITCH 9: home at 3", x.rounds(1, 1, 3), 9);
            x.set(1, 9);
            due.is("SKILL 9 as well", x.rounds(1, 1, 3), 9);
        });
        of.promise(21, "ROUNDS (by SKILL, PITCH as they are; the load as it is).", "the wagon stays", due -> {
            LoadedForTheLane x = nine(due);
            String was = Sentences.seen(x);
            x.rounds(0, 4, 999);
            due.same("all", Sentences.seen(x), was);
            due.is("again alike", x.rounds(0, 1, 27), 18);
        });
    }

    private void roundsRefused() {
        String refused = "-1; -4 (n below 1, t below 0); -6 (4; 999); -3.";
        of.promise(21, refused, "-1: the first WAY that is not there on each side", due -> {
            LoadedForTheLane x = nine(due);
            due.is("WAY 2", x.rounds(2, 1, 1), -1);
            due.is("WAY -1", x.rounds(-1, 1, 1), -1);
            due.is("WAY MIN", x.rounds(MIN, 1, 1), -1);
            due.is("WAY MAX", x.rounds(MAX, 1, 1), -1);
            due.refusals(x, 4, 0, 0, 0, 0);
        });
        of.promise(21, refused, "-4: n of 0, t of -1", due -> {
            LoadedForTheLane x = nine(due);
            due.is("n of 1, t of 0", x.rounds(0, 1, 0), 0);
            due.is("n of 0", x.rounds(0, 0, 0), -4);
            due.is("n of MIN", x.rounds(0, MIN, 0), -4);
            due.is("t of -1", x.rounds(0, 1, -1), -4);
            due.is("t of MIN", x.rounds(0, 1, MIN), -4);
            due.is("both", x.rounds(0, 0, -1), -4);
            due.refusals(x, 0, 0, 0, 5, 0);
        });
        of.promise(21, refused, "-6: n of 5, t of 1000", due -> {
            LoadedForTheLane x = nine(due);
            due.is("n of 4, t of 999", x.rounds(0, 4, 999), 999);
            due.is("n of 5", x.rounds(0, 5, 999), -6);
            due.is("n of MAX", x.rounds(0, MAX, 0), -6);
            due.is("t of 1000", x.rounds(0, 4, 1000), -6);
            due.is("t of MAX", x.rounds(0, 1, MAX), -6);
            due.is("both", x.rounds(0, 5, 1000), -6);
            due.refusals(x, 0, 0, 0, 0, 5);
        });
        of.promise(21, refused, "-1, then -4, then -6, then -3", due -> {
            LoadedForTheLane x = nine(due);
            due.is("-1 ahead of -4", x.rounds(2, 0, -1), -1);
            due.is("-1 ahead of -6", x.rounds(2, 5, 1000), -1);
            due.is("-4 of n ahead of -6 of t", x.rounds(1, 0, 1000), -4);
            due.is("-4 of t ahead of -6 of n", x.rounds(1, 5, -1), -4);
            due.is("-6 of n ahead of -3", x.rounds(1, 5, 0), -6);
            due.is("-6 of t ahead of -3", x.rounds(1, 1, 1000), -6);
            due.is("-3", x.rounds(1, 1, 0), -3);
            due.refusals(x, 2, 0, 1, 2, 2);
        });
        String none = "-3 the load does not hold that WAY, has no LAYERS.";
        of.terms(21, none, "just holds, just not", due -> {
            due.is("25 of 25", due.loaded("yl055+0;w0b201;").rounds(0, 1, 6), 5);
            due.is("26 of 25", due.loaded("yl056+0;w0b201;").rounds(0, 1, 6), -3);
        });
        of.terms(21, none, "no LAYERS, with and without PIECES; -3 is a REFUSAL", due -> {
            LoadedForTheLane x = due.loaded("w1g001;");
            due.is("without PIECES", x.rounds(0, 1, 0), -3);
            due.is("with PIECES", x.rounds(1, 4, 999), -3);
            due.refusals(x, 0, 0, 2, 0, 0);
        });
    }

    private void worth() {
        String worth = "WORTH: by how much that is more with one WAGON more.";
        of.terms(22, worth, "the second WAGON's first load, a minute ahead of it, its second", due -> {
            LoadedForTheLane x = nine(due);
            due.is("13", x.worth(0, 1, 13), 0);
            due.is("14", x.worth(0, 1, 14), 9);
            due.is("29", x.worth(0, 1, 29), 9);
            due.is("30", x.worth(0, 1, 30), 18);
        });
        of.terms(22, worth, "the fourth WAGON", due -> {
            LoadedForTheLane x = nine(due);
            due.is("19", x.worth(0, 3, 19), 0);
            due.is("20", x.worth(0, 3, 20), 9);
        });
        of.terms(22, worth, "nothing where the pitcher has no time for it", due -> {
            LoadedForTheLane x = due.loaded(LAYER + "f999;");
            due.is("the second", x.worth(0, 1, 999), 499);
            due.is("the third", x.worth(0, 2, 999), 0);
            due.is("the fourth", x.worth(0, 3, 999), 0);
        });
        of.terms(22, worth, "FIELD holds both down", due -> {
            LoadedForTheLane x = due.loaded(LAYER);
            int[] fields = {0, 498, 499, 500, 997, 998, 999};
            int[] more = {0, 0, 0, 1, 498, 499, 499};
            for (int i = 0; i < fields.length; i++) {
                x.set(3, fields[i]);
                due.is("FIELD " + fields[i], x.worth(0, 1, 999), more[i]);
            }
        });
        of.promise(22, "WORTH.", "T of 0; the wagon stays", due -> {
            LoadedForTheLane x = nine(due);
            String was = Sentences.seen(x);
            due.is("worth(0, 1, 0)", x.worth(0, 1, 0), 0);
            due.is("worth(0, 3, 999)", x.worth(0, 3, 999), 0);
            due.same("all", Sentences.seen(x), was);
            due.refusals(x, 0, 0, 0, 0, 0);
        });
    }

    private void worthRefused() {
        String refused = "Refused as told: -1; -4; -6 (3; 999); -3.";
        of.promise(22, refused, "-1: the first WAY that is not there on each side", due -> {
            LoadedForTheLane x = nine(due);
            due.is("WAY 2", x.worth(2, 1, 1), WIDE + 1);
            due.is("WAY -1", x.worth(-1, 1, 1), WIDE + 1);
            due.is("WAY MIN", x.worth(MIN, 1, 1), WIDE + 1);
            due.is("WAY MAX", x.worth(MAX, 1, 1), WIDE + 1);
            due.refusals(x, 4, 0, 0, 0, 0);
        });
        of.promise(22, refused, "-4: n of 0, t of -1", due -> {
            LoadedForTheLane x = nine(due);
            due.is("n of 1, t of 0", x.worth(0, 1, 0), 0);
            due.is("n of 0", x.worth(0, 0, 0), WIDE + 4);
            due.is("n of MIN", x.worth(0, MIN, 0), WIDE + 4);
            due.is("t of -1", x.worth(0, 1, -1), WIDE + 4);
            due.is("t of MIN", x.worth(0, 1, MIN), WIDE + 4);
            due.refusals(x, 0, 0, 0, 4, 0);
        });
        of.promise(22, refused, "-6: n of 4, t of 1000", due -> {
            LoadedForTheLane x = nine(due);
            due.is("n of 3, t of 999", x.worth(0, 3, 999), 0);
            due.is("n of 4", x.worth(0, 4, 999), WIDE + 6);
            due.is("n of MAX", x.worth(0, MAX, 0), WIDE + 6);
            due.is("t of 1000", x.worth(0, 3, 1000), WIDE + 6);
            due.is("t of MAX", x.worth(0, 1, MAX), WIDE + 6);
            due.refusals(x, 0, 0, 0, 0, 4);
        });
        of.promise(22, refused, "-3: it slips, has no LAYERS", due -> {
            LoadedForTheLane x = nine(due);
            due.is("slips", x.worth(1, 1, 1), WIDE + 3);
            x.off();
            due.is("no LAYERS", x.worth(0, 1, 1), WIDE + 3);
            due.refusals(x, 0, 0, 2, 0, 0);
        });
        of.promise(22, refused, "-1, then -4, then -6, then -3; each counted once", due -> {
            LoadedForTheLane x = nine(due);
            due.is("-1 ahead of -4", x.worth(2, 0, -1), WIDE + 1);
            due.is("-1 ahead of -6", x.worth(-1, 4, 1000), WIDE + 1);
            due.is("-4 of n ahead of -6 of t", x.worth(1, 0, 1000), WIDE + 4);
            due.is("-4 of t ahead of -6 of n", x.worth(1, 4, -1), WIDE + 4);
            due.is("-6 of n ahead of -3", x.worth(1, 4, 0), WIDE + 6);
            due.is("-6 of t ahead of -3", x.worth(1, 3, 1000), WIDE + 6);
            due.is("-3", x.worth(1, 3, 0), WIDE + 3);
            due.refusals(x, 2, 0, 1, 2, 2);
        });
    }

    private static void odds(Sentences.Due due, LoadedForTheLane x, int way, int t, long above, long below) {
        due.is("above of " + t, x.thunder(way, t, 0), above);
        due.is("below of " + t, x.thunder(way, t, 1), below);
    }

    private void thunder() {
        String thunder = "THUNDER comes in each MINUTE by t tenths (0 .. 9): how likely it does not come in as many MINUTES"
            + " as the WAY has, 12 at most: a fraction in least terms.";
        of.terms(23, thunder, "no MINUTES: 1 by 1", due -> {
            LoadedForTheLane x = new LoadedForTheLane();
            for (int t = 0; t <= 9; t++) {
                odds(due, x, 1, t, 1, 1);
            }
        });
        of.terms(23, thunder, "one MINUTE: each number of tenths in least terms", due -> {
            LoadedForTheLane x = due.loaded("w1s101;");
            long[] above = {1, 9, 4, 7, 3, 1, 2, 3, 1, 1};
            long[] below = {1, 10, 5, 10, 5, 2, 5, 10, 5, 10};
            for (int t = 0; t <= 9; t++) {
                odds(due, x, 1, t, above[t], below[t]);
            }
        });
        of.terms(23, thunder, "11, 12, 13 and 54 MINUTES", due -> {
            odds(due, due.loaded("w0s109;w0s102;"), 0, 9, 1, 100000000000L);
            odds(due, due.loaded("w0s109;w0s103;"), 0, 9, 1, 1000000000000L);
            odds(due, due.loaded("w0s109;w0s104;"), 0, 9, 1, 1000000000000L);
            LoadedForTheLane x = due.loaded(Sentences.times(6, "w0s109;"));
            odds(due, x, 0, 9, 1, 1000000000000L);
            odds(due, x, 0, 1, 282429536481L, 1000000000000L);
            odds(due, x, 0, 2, 16777216, 244140625);
            odds(due, x, 0, 5, 1, 4096);
            odds(due, x, 0, 0, 1, 1);
        });
        of.promise(23, "THUNDER, part 0 above, 1 below the line.", "whether it holds or not, with and without LAYERS",
            due -> {
                LoadedForTheLane x = due.loaded("w0g002;w1g002;");
                odds(due, x, 0, 3, 49, 100);
                due.is("load", Sentences.load(x, LAYER), 1);
                odds(due, x, 0, 3, 49, 100);
                due.refusals(x, 0, 0, 0, 0, 0);
            });
    }

    private void thunderRefused() {
        String refused = "Refused as told: -1; -4; -6 9; -2.";
        of.promise(23, refused, "-1: the first WAY that is not there on each side", due -> {
            LoadedForTheLane x = due.loaded("w0s101;w1s101;");
            due.is("WAY 2", x.thunder(2, 1, 0), LONG + 1);
            due.is("WAY -1", x.thunder(-1, 1, 1), LONG + 1);
            due.is("WAY MIN", x.thunder(MIN, 1, 0), LONG + 1);
            due.is("WAY MAX", x.thunder(MAX, 1, 0), LONG + 1);
            due.refusals(x, 4, 0, 0, 0, 0);
        });
        of.promise(23, refused, "-4 below 0, -6 above 9", due -> {
            LoadedForTheLane x = due.loaded("w0s101;");
            due.is("t of 0", x.thunder(0, 0, 0), 1);
            due.is("t of -1", x.thunder(0, -1, 0), LONG + 4);
            due.is("t of MIN", x.thunder(0, MIN, 0), LONG + 4);
            due.is("t of 9", x.thunder(0, 9, 1), 10);
            due.is("t of 10", x.thunder(0, 10, 1), LONG + 6);
            due.is("t of MAX", x.thunder(0, MAX, 1), LONG + 6);
            due.refusals(x, 0, 0, 0, 2, 2);
        });
        of.promise(23, refused, "-2: the first part that is none on each side", due -> {
            LoadedForTheLane x = due.loaded("w0s101;");
            due.is("part -1", x.thunder(0, 9, -1), LONG + 2);
            due.is("part 2", x.thunder(0, 9, 2), LONG + 2);
            due.is("part MIN", x.thunder(0, 0, MIN), LONG + 2);
            due.is("part MAX", x.thunder(0, 0, MAX), LONG + 2);
            due.refusals(x, 0, 4, 0, 0, 0);
        });
        of.promise(23, refused, "-1, then -4, then -6, then -2", due -> {
            LoadedForTheLane x = new LoadedForTheLane();
            due.is("-1 ahead of -4, -2", x.thunder(2, -1, 2), LONG + 1);
            due.is("-1 ahead of -6, -2", x.thunder(-1, 10, -1), LONG + 1);
            due.is("-4 ahead of -2", x.thunder(0, -1, 2), LONG + 4);
            due.is("-6 ahead of -2", x.thunder(0, 10, 2), LONG + 6);
            due.is("-2", x.thunder(0, 9, 2), LONG + 2);
            due.refusals(x, 2, 1, 0, 1, 1);
        });
    }
}
