/** For each promise of the document: ordinary inputs, its edges, wrong inputs; answers worked out by hand. */
public final class PromisesTest {
    private static final long WIDE = 1000000000L;
    private static final long LONG = 4000000000000000000L;

    private static int wrong = 0;
    private static int asked = 0;

    private static void due(String what, long got, long want) {
        asked++;
        if (got != want) {
            wrong++;
            System.out.println(what + " answered " + got + ", due is " + want);
        }
    }

    private static void tell(LoadedForTheLane x, String text) {
        for (int i = 0; i < text.length(); i++) {
            x.letter(text.charAt(i));
        }
    }

    private static int load(LoadedForTheLane x, String text) {
        tell(x, text);
        return x.load();
    }

    private static LoadedForTheLane loaded(String... texts) {
        LoadedForTheLane x = new LoadedForTheLane();
        for (String text : texts) {
            due("load " + text, load(x, text), text.chars().filter(c -> c == ';').count());
        }
        return x;
    }

    private static void rows(LoadedForTheLane x, int... numbers) {
        for (int number : numbers) {
            x.row(number);
        }
    }

    public static void main(String[] args) {
        promise1();
        promise2();
        promise3();
        promise3Statements();
        promise4();
        promise5();
        promise6();
        promise7();
        promise8();
        promise9();
        promise10();
        promise11();
        promise12();
        promise13();
        promise14();
        promise15();
        promise16();
        promise17();
        promise18();
        promise19();
        promise20();
        promise21();
        promise22();
        promise23();
        promise24();
        promise25();
        promise26();
        promise27();
        promise28();
        promise29();
        promise30And31();
        promise32();
        System.out.println(asked + " answers looked at, " + wrong + " not as due");
        if (wrong != 0) {
            System.exit(1);
        }
    }

    private static void promise1() {
        LoadedForTheLane x = new LoadedForTheLane();
        for (int what = 0; what <= 16; what++) {
            due("1 count " + what, x.count(what), what == 4 ? 96 : what == 10 ? -9 : 0);
        }
        due("1 ropes", x.set(0, 0), 0);
        due("1 skill", x.set(1, 4), 4);
        due("1 pitch", x.set(2, 3), 3);
        due("1 field", x.set(3, 200), 200);
        due("1 on", x.on(), -3);
    }

    private static void promise2() {
        LoadedForTheLane x = new LoadedForTheLane();
        due("2 least", x.letter(0), 1);
        due("2 greatest", x.letter(255), 2);
        due("2 below", x.letter(-1), -4);
        due("2 above", x.letter(256), -6);
        due("2 none more", x.count(9), 2);
        for (int n = 3; n <= 96; n++) {
            due("2 letter", x.letter('y'), n);
        }
        due("2 full", x.letter('y'), -6);
        due("2 full and below", x.letter(Integer.MIN_VALUE), -4);
        due("2 still full", x.count(9), 96);
        due("2 refusals below", x.count(14), 2);
        due("2 refusals room", x.count(16), 2);
    }

    private static void promise3() {
        LoadedForTheLane x = new LoadedForTheLane();
        due("3 nothing told", x.load(), -1000);
        String[] ofForm = {"z", "yl", "yz", "yl1", "yla", "yl100+", "yl1000", "yl100+05", "yl100+0", "w",
            "wx", "w0", "w0l", "w0s0", "w0s015", "w0s0155", "r", "r;", "r10;", "k4;", "k456", "f", "f;", "f1",
            "f12", "f123", "f1234", "f1x", "u", "u1", "r1;;", "r1;z", "r1; r2;", "Yl100+0;", "y l"};
        int[] places = {0, 2, 1, 3, 2, 6, 5, 7, 7, 1,
            1, 2, 2, 4, 6, 6, 1, 1, 2, 2, 3, 1, 1, 2,
            3, 4, 4, 2, 1, 1, 3, 3, 3, 0, 1};
        for (int i = 0; i < ofForm.length; i++) {
            due("3 of form " + ofForm[i], load(x, ofForm[i]), -1000 - places[i]);
            due("3 no letters behind " + ofForm[i], x.count(9), 0);
        }
        due("3 of form first", load(x, "u;r9;x"), -1005);
        String[] ofSense = {"yl000+0;", "yl210+0;", "yl100+6;", "yl100-6;", "w2s011;", "w9s011;", "w0s211;",
            "w0s010;", "r6;", "k04;", "k40;", "u;", "r5;r6;", "yl010+0;u;u;", "yl010+0;yl990+0;"};
        int[] starts = {0, 0, 0, 0, 0, 0, 0, 0, 0, 0, 0, 0, 3, 10, 8};
        for (int i = 0; i < ofSense.length; i++) {
            due("3 of sense " + ofSense[i], load(x, ofSense[i]), -2000 - starts[i]);
        }
        due("3 nothing of it came", x.count(0) + x.count(1) + x.count(2) + x.count(7), 0);
        for (int refusal = 11; refusal <= 16; refusal++) {
            due("3 no fault is counted", x.count(refusal), 0);
        }
    }

    private static void promise3Statements() {
        LoadedForTheLane x = new LoadedForTheLane();
        due("3 all", load(x, "yb209+5;w1g209;r5;k98;f999;yl010-5;u;"), 7);
        due("3 one layer", x.count(0), 1);
        due("3 kind", x.layer(0, 0), 1);
        due("3 sheaves", x.layer(0, 1), 20);
        due("3 out", x.layer(0, 2), 9);
        due("3 lean", x.layer(0, 3), 5);
        due("3 ropes", x.set(0, 0), 5);
        due("3 skill", x.set(1, 1), 9);
        due("3 pitch", x.set(2, 1), 8);
        due("3 field", x.set(3, 0), 999);
        due("3 short field", load(x, "f7;"), 1);
        due("3 short field is", x.set(3, 0), 7);
        due("3 field of two", load(x, "f07;"), 1);
        due("3 field of two is", x.set(3, 0), 7);
        due("3 lean below", load(x, "u;yl010-5;"), 2);
        due("3 lean below is", x.layer(0, 3), -5);
        due("3 ten more", load(x, "yl010+0;yl010+0;yl010+0;yl010+0;yl010+0;"), 5);
        due("3 ten more", load(x, "yl010+0;yl010+0;yl010+0;yl010+0;yl010+0;"), 5);
        due("3 eleven", x.count(0), 11);
        due("3 no room", load(x, "r2;yl010+0;"), -2003);
        due("3 nothing came", x.count(7), 0);
        due("3 room behind u", load(x, "u;yl010+0;"), 2);
        due("3 six pieces", load(x, "w0s011;w0s011;w0s011;w0s011;w0s011;w0s011;"), 6);
        due("3 no room for a piece", load(x, "w0s011;"), -2000);
        due("3 other way", load(x, "w1s011;w0s011;"), -2007);
    }

    private static void promise4() {
        LoadedForTheLane x = loaded("yl070+0;yb071+1;yo072+2;yw073-3;yh074-4;yt075+5;ym079-5;");
        int[] weights = {70, 70, 70, 98, 70, 130, 98};
        int[] bindings = {35, 56, 17, 35, 7, 56, 49};
        int[] thick = {9, 9, 11, 8, 11, 9, 8};
        int[] outs = {0, 1, 2, 3, 4, 5, 9};
        int[] leans = {0, 1, 2, -3, -4, 5, -5};
        int[] loads = {606, 536, 466, 396, 298, 228, 98};
        for (int i = 0; i < 7; i++) {
            due("4 kind", x.layer(i, 0), i);
            due("4 sheaves", x.layer(i, 1), 7);
            due("4 out", x.layer(i, 2), outs[i]);
            due("4 lean", x.layer(i, 3), leans[i]);
            due("4 weight " + i, x.layer(i, 4), weights[i]);
            due("4 binding " + i, x.layer(i, 5), bindings[i]);
            due("4 thick " + i, x.layer(i, 6), thick[i]);
            due("4 load " + i, x.layer(i, 7), loads[i]);
        }
        x.set(0, 5);
        x.set(2, 9);
        due("4 binding is without ropes and pitch", x.layer(0, 5), 35);
        due("4 hurried at least", loaded("yh030+0;").layer(0, 5), 0);
        due("4 hurried by four", loaded("yh040+0;").layer(0, 5), 0);
        due("4 hurried by five", loaded("yh050+0;").layer(0, 5), 2);
        due("4 no layer", x.layer(7, 0), WIDE + 1);
        due("4 below", x.layer(-1, 9), WIDE + 1);
        due("4 what", x.layer(0, 8), WIDE + 2);
        due("4 what below", x.layer(0, -1), WIDE + 2);
        due("4 counted", x.count(11) * 10 + x.count(12), 22);
    }

    private static void promise5() {
        LoadedForTheLane x = loaded("w0s001;w0d022;w0j043;w0b084;w0r165;w0g206;w1g079;");
        int[] figures = {0, 2, 4, 8, 16, 20};
        for (int i = 0; i < 6; i++) {
            due("5 kind", x.piece(0, i, 0), i);
            due("5 figure", x.piece(0, i, 1), figures[i]);
            due("5 minutes", x.piece(0, i, 2), i + 1);
        }
        due("5 other way", x.piece(1, 0, 1), 7);
        due("5 piece", x.piece(0, 6, 0), -1);
        due("5 piece below", x.piece(0, -1, 0), -1);
        due("5 piece of the other", x.piece(1, 1, 7), -1);
        due("5 way", x.piece(2, 0, 0), -1);
        due("5 way below", x.piece(-1, 0, 0), -1);
        due("5 what", x.piece(0, 0, 3), -2);
        due("5 what below", x.piece(0, 0, -1), -2);
    }

    private static void promise6() {
        LoadedForTheLane x = loaded("yl100+0;yt050+0;yw010+0;");
        due("6 off", x.off(), 2);
        due("6 load is less", x.layer(0, 7), 210);
        due("6 off", x.off(), 1);
        due("6 load is less", x.layer(0, 7), 100);
        due("6 off", x.off(), 0);
        due("6 none", x.off(), -3);
        due("6 counted", x.count(13), 1);
        due("6 weight", x.count(5), 0);
    }

    private static void promise7() {
        LoadedForTheLane x = loaded("yl104+0;yl105+0;");
        due("7 was", x.out(1, 9), 5);
        due("7 was", x.out(1, 0), 9);
        due("7 is", x.layer(1, 2), 0);
        due("7 other", x.layer(0, 2), 4);
        due("7 no layer", x.out(2, 10), -1);
        due("7 below zero", x.out(-1, 0), -1);
        due("7 below", x.out(0, -1), -4);
        due("7 above", x.out(0, 10), -6);
        due("7 stays", x.layer(0, 2), 4);
    }

    private static void promise8() {
        LoadedForTheLane x = new LoadedForTheLane();
        int[] least = {0, 1, 1, 0};
        int[] most = {5, 9, 9, 999};
        int[] first = {0, 4, 3, 200};
        for (int what = 0; what < 4; what++) {
            due("8 below", x.set(what, least[what] - 1), -4);
            due("8 above", x.set(what, most[what] + 1), -6);
            due("8 was", x.set(what, most[what]), first[what]);
            due("8 was", x.set(what, least[what]), most[what]);
            due("8 was", x.set(what, least[what]), least[what]);
        }
        due("8 what", x.set(4, -1), -2);
        due("8 what below", x.set(-1, 1000), -2);
        due("8 counted", x.count(12) * 100 + x.count(14) * 10 + x.count(16), 244);
    }

    private static void promise9() {
        LoadedForTheLane x = loaded("yl203-5;yb100+5;", "w0s001;w0s151;w0d091;w0j101;w0b071;w0r001;w1g001;");
        due("9 slope below", x.shift(0, 0, 0), 300 * 15 / 40);
        due("9 slope even", x.shift(0, 1, 0), 0);
        due("9 slope", x.shift(0, 0, 1), 100 * 5 / 40);
        due("9 slope up", x.shift(0, 1, 1), 25);
        due("9 dip", x.shift(0, 2, 0), 45);
        due("9 jerk at the first", x.shift(0, 3, 0), 16);
        due("9 jerk", x.shift(0, 3, 1), 10);
        due("9 bend", x.shift(0, 4, 0), 60);
        due("9 bend", x.shift(0, 4, 1), 14);
        due("9 branch", x.shift(0, 5, 0), 0);
        due("9 gate", x.shift(1, 0, 1), 0);
        due("9 way", x.shift(2, 0, 0), -1);
        due("9 way below", x.shift(-1, 0, 0), -1);
        due("9 piece", x.shift(1, 1, 0), -1);
        due("9 piece below", x.shift(1, -1, 0), -1);
        due("9 layer", x.shift(0, 0, 2), -1);
        due("9 layer below", x.shift(0, 0, -1), -1);
        // A dip's 100 * 1 by 60 is cut to 1 before it is taken 8 times.
        LoadedForTheLane y = loaded("yl010+0;yl010+0;yl010+0;yl010+0;yl010+0;yl010+0;yl010+0;yl100+0;", "w0j011;");
        due("9 jerk cut twice", y.shift(0, 0, 7), 2);
    }

    private static void promise10() {
        LoadedForTheLane x = loaded("yl100+0;yl100+0;", "w0s101;w0d151;w0s201;w1r201;");
        // DIP: 200 * 15 by 60 is 50: just held by BINDING 50.
        due("10 slips", x.slips(0, 0), -9);
        load(x, "yl010+0;");
        due("10 at the dip", x.slips(0, 0), 1);
        due("10 at the first layer", x.slips(0, 1), 0);
        x.set(0, 1);
        due("10 a rope", x.slips(0, 0), -9);
        due("10 the branch", x.slips(1, 0), -9);
        due("10 way", x.slips(2, 7), -1);
        due("10 way below", x.slips(-1, 0), -1);
        due("10 what", x.slips(0, 2), -2);
        due("10 what below", x.slips(0, -1), -2);
        branches();
        gates();
        due("10 nothing", new LoadedForTheLane().slips(1, 1), -9);
    }

    private static void branches() {
        // HEIGHT 45.
        LoadedForTheLane x = loaded("yl010+0;yl010+0;yl010+0;yl010+0;yl010+0;r5;", "w0r021;w1r011;");
        due("10 branch holds", x.slips(0, 0), -9);
        due("10 branch slips", x.slips(1, 0), 0);
        due("10 branch at the top", x.slips(1, 1), 4);
        load(x, "u;yw010+0;");
        due("10 branch of 44 holds", x.slips(1, 0), -9);
    }

    private static void gates() {
        // WIDTH 102.
        LoadedForTheLane x = loaded("yl011+0;yl013+0;yl013+0;yl012+0;r5;", "w0g121;w1g111;");
        due("10 gate holds", x.slips(0, 1), -9);
        due("10 gate slips", x.slips(1, 0), 0);
        due("10 gate at the least", x.slips(1, 1), 1);
        LoadedForTheLane empty = loaded("w0g001;w0r001;");
        due("10 gate without layers", empty.slips(0, 0), -9);
    }

    private static void promise11() {
        LoadedForTheLane x = loaded("yl100+0;yb050+0;", "w0d061;w0s051;w1r001;w1g001;");
        // Layer 0: 50 less 15, 50 less 18; layer 1: 40 less 5, 40 less 6.
        due("11 margin", x.margin(0), 32);
        x.set(0, 2);
        due("11 with ropes", x.margin(0), 62);
        x.set(0, 0);
        load(x, "w0d201;w0d201;yl200+0;");
        due("11 below 0", x.margin(0), 50 - 350 * 20 / 60);
        due("11 no shifts", x.margin(1), 9999);
        due("11 no layers", loaded("w0s001;").margin(0), 9999);
        due("11 no pieces", loaded("yl010+0;").margin(0), 9999);
        due("11 way", x.margin(2), WIDE + 1);
        due("11 way below", x.margin(-1), WIDE + 1);
        due("11 counted", x.count(11), 2);
    }

    private static void promise12() {
        LoadedForTheLane x = loaded("yl100+0;yl100+0;yl010+0;yl200+0;", "w0d151;");
        due("12 two", x.high(0), 2);
        due("12 all of another way", x.high(1), 4);
        x.set(0, 5);
        due("12 all", x.high(0), 4);
        due("12 stays", x.count(0), 4);
        // The wide layer is the top one.
        due("12 below the wide one", loaded("yl010+0;yl015+0;w0g061;").high(0), 1);
        due("12 none", loaded("yl010+0;w0g051;").high(0), 0);
        due("12 no layers", new LoadedForTheLane().high(0), 0);
        due("12 way", x.high(2), -1);
        due("12 way below", x.high(-1), -1);
    }

    private static void promise13() {
        LoadedForTheLane x = loaded("yl100+0;yl100+0;", "w0d101;w1d151;");
        due("13 holds", x.more(0), 1);
        due("13 slips", x.more(1), 0);
        due("13 stays", x.count(0), 2);
        due("13 way", x.more(2), -1);
        due("13 way below", x.more(-1), -1);
        due("13 no layers", new LoadedForTheLane().more(0), -3);
        due("13 no layers, no way", new LoadedForTheLane().more(2), -1);
        // HEIGHT 99, with one more 108; layer 11 is asked for by the jerk: 10 * 15 by 60, times 12 by 3.
        LoadedForTheLane y = loaded("yl010+0;yl010+0;yl010+0;yl010+0;yl010+0;yl010+0;",
            "yl010+0;yl010+0;yl010+0;yl010+0;yl010+0;r3;", "w0r161;w0r171;w1r151;");
        due("13 with eleven slips", y.more(0), 0);
        due("13 with eleven", y.more(1), 0);
        LoadedForTheLane z = loaded("yb010+0;yl010+0;yl010+0;yl010+0;yl010+0;yl010+0;",
            "yl010+0;yl010+0;yl010+0;yl010+0;yl010+0;r0;", "w0r171;w1j121;");
        due("13 with eleven holds", z.more(0), 1);
        due("13 eleven hold the jerk", loaded("yl010+0;w1j121;").more(1), 1);
        // 10 * 12 by 60, times 12 by 3 is 8, above 5.
        due("13 the twelfth slips", z.more(1), 0);
        due("13 eleven stay", z.count(0), 11);
        // The same OUT, LEAN as the top one.
        due("13 like the top one", loaded("yl010+0;yl108+0;w0b001;").more(0), 1);
        due("13 wide", loaded("yl010+0;yl208+0;w0b191;").more(0), 0);
    }

    private static void promise14() {
        LoadedForTheLane x = loaded("yl100+0;yl109+0;", "w0b101;w1g121;w1r201;");
        // BEND: 200 * (10 and OUT) by 50 is 50 at most: OUT 2 (48), of OUT 3 it is 52; the top holds 100 * 19 by 50.
        due("14 bend", x.farOut(0, 0), 2);
        due("14 bend at the top", x.farOut(0, 1), 9);
        due("14 gate and the other", x.farOut(1, 0), -9);
        due("14 gate", x.farOut(1, 1), 3);
        due("14 stays", x.layer(1, 2), 9);
        due("14 all", loaded("yl010+0;").farOut(0, 0), 9);
        due("14 none", loaded("yl010+0;w0g051;").farOut(0, 0), -9);
        due("14 just 0", loaded("yl010+0;w0g061;").farOut(0, 0), 0);
        due("14 layer", x.farOut(0, 2), -1);
        due("14 layer below", x.farOut(0, -1), -1);
        due("14 way", x.farOut(2, 0), -1);
        due("14 way below", x.farOut(-1, 0), -1);
    }

    private static void promise15() {
        LoadedForTheLane x = loaded("yl200+3;", "w0s121;w1r001;");
        // 2 and LEAN 3: five too many.
        due("15 against", x.leaning(0), -5);
        due("15 none", x.leaning(1), -5);
        due("15 stays", x.layer(0, 3), 3);
        due("15 two less", loaded("yl200+0;w0s121;").leaning(0), -2);
        due("15 three more", loaded("yl200+0;w0s071;").leaning(0), 3);
        // LEAN 4 is held to 5 by 1, by 2, ..
        due("15 held to 5", loaded("yl200+4;w0s001;").leaning(0), 1);
        due("15 held to -5", loaded("yl200-4;w0s201;").leaning(0), -5);
        // Layer 0 (load 400) wants less, layer 1 (load 200) more: LEANS 2, -2 on a level SLOPE.
        due("15 between", loaded("yl200+2;yl200-2;w0s101;").leaning(0), -1);
        due("15 no layers", loaded("w0s001;").leaning(0), -5);
        due("15 way", x.leaning(2), WIDE + 1);
        due("15 way below", x.leaning(-1), WIDE + 1);
    }

    private static void promise16() {
        LoadedForTheLane x = loaded("yl100+0;yl200+0;", "w0d161;w0s101;w1g051;");
        // DIP: 300 * 16 by 60 is 80, BINDING 50: two ropes give 80.
        due("16 two", x.enough(0), 2);
        x.set(0, 5);
        due("16 two, with five too", x.enough(0), 2);
        due("16 stays", x.count(7), 5);
        due("16 gate", x.enough(1), -9);
        due("16 none needed", new LoadedForTheLane().enough(1), 0);
        // Layer 0 (BINDING 100) bears a third of all: 160, 166, 176.
        due("16 four", loaded("yl200+0;yl200+0;yl080+0;w0d201;").enough(0), 4);
        due("16 five", loaded("yl200+0;yl200+0;yl100+0;w0d201;").enough(0), 5);
        due("16 above five", loaded("yl200+0;yl200+0;yl130+0;w0d201;").enough(0), -9);
        due("16 way", x.enough(2), -1);
        due("16 way below", x.enough(-1), -1);
    }

    private static void promise17() {
        LoadedForTheLane x = loaded("yl100+0;", "w0s109;w0d208;w1s001;");
        due("17 home", x.home(0), 17);
        load(x, "yl200+0;");
        due("17 slips", x.home(0), -9);
        due("17 no pieces", loaded("yl010+0;").home(1), 0);
        due("17 no layers", loaded("w1g009;").home(1), 9);
        due("17 way", x.home(2), -1);
        due("17 way below", x.home(-1), -1);
    }

    private static void promise18() {
        due("18 nothing", new LoadedForTheLane().which(), 0);
        due("18 alike", loaded("w0s103;w1s101;w1s102;").which(), 0);
        due("18 the second", loaded("w0s104;w1s101;w1s102;").which(), 1);
        due("18 the first", loaded("w0s102;w1s101;w1s102;").which(), 0);
        due("18 just the second", loaded("yl010+0;w0g051;w1s109;").which(), 1);
        due("18 just the first", loaded("yl010+0;w0s109;w1g051;").which(), 0);
        due("18 none", loaded("yl010+0;w0g051;w1g051;").which(), -9);
    }

    private static void promise19() {
        LoadedForTheLane x = loaded("yl100+0;yl110+0;");
        int[] minutes = {21, 11, 7, 6, 5, 4, 3, 3, 3};
        for (int pitch = 1; pitch <= 9; pitch++) {
            due("19 by " + pitch, x.pitching(pitch), minutes[pitch - 1]);
        }
        due("19 nothing", new LoadedForTheLane().pitching(9), 0);
        due("19 below", x.pitching(0), -4);
        due("19 above", x.pitching(10), -6);
    }

    private static void promise20() {
        // DIP: 200 * 18 by 60 is 60 of BINDING 100; at PITCH 9, SKILL 4 there lie 20 * 5 by 9, cut, 11 badly.
        LoadedForTheLane x = loaded("yl200+0;", "w0d181;w1g001;");
        // PITCH 8: 20 * 4 by 9 are 8: 68 is enough. 9: 56.
        due("20 eight is as quick as seven", x.quick(0), 7);
        x.set(1, 9);
        due("20 nine as quick as seven", x.quick(0), 7);
        x.set(1, 1);
        // PITCH 5: 20 * 4 by 9 are 8; 6: 20 * 5 by 9 are 11: 56.
        due("20 by a bad loader", x.quick(0), 5);
        x.set(0, 1);
        // 7: 13: 52, 67 with the rope.
        due("20 and a rope", x.quick(0), 7);
        due("20 gate", x.quick(1), -9);
        due("20 the load stays", x.layer(0, 5), 100);
        due("20 nothing", new LoadedForTheLane().quick(0), 1);
        // BINDING 0 at least: hurried 5 sheaves bind 2, badly laid 0, and the rope holds 15: 50 * 18 by 60.
        LoadedForTheLane y = loaded("yh050+0;r1;k19;", "w0d181;");
        due("20 binding 0 at least", y.quick(0), 5);
        due("20 way", x.quick(2), -1);
        due("20 way below", x.quick(-1), -1);
    }

    private static void promise21() {
        LoadedForTheLane x = loaded("yl090+0;f999;", "w0s102;w0s103;w1g051;");
        // 3 minutes to load, 5 to go, 3 to unload, 5 back: home at 11, 27, 43, ..
        due("21 not yet", x.rounds(0, 1, 10), 0);
        due("21 one", x.rounds(0, 1, 11), 9);
        due("21 still one", x.rounds(0, 1, 26), 9);
        due("21 two", x.rounds(0, 1, 27), 18);
        // Two wagons: the second is loaded at 6: home at 14, 30.
        due("21 two wagons", x.rounds(0, 2, 14), 18);
        due("21 two wagons", x.rounds(0, 2, 29), 27);
        due("21 two wagons", x.rounds(0, 2, 30), 36);
        // Four: home at 11, 14, 17, 20, 27.
        due("21 four wagons", x.rounds(0, 4, 26), 36);
        due("21 four wagons", x.rounds(0, 4, 27), 45);
        due("21 time 0", x.rounds(0, 1, 0), 0);
        x.set(3, 20);
        due("21 field", x.rounds(0, 4, 999), 20);
        x.set(3, 0);
        due("21 no field", x.rounds(0, 4, 999), 0);
        due("21 slips", x.rounds(1, 1, 1), -3);
        due("21 no layers", new LoadedForTheLane().rounds(0, 1, 1), -3);
        due("21 way", x.rounds(2, 0, -1), -1);
        due("21 way below", x.rounds(-1, 1, 1), -1);
        due("21 n below", x.rounds(1, 0, 1000), -4);
        due("21 t below", x.rounds(1, 5, -1), -4);
        due("21 n above", x.rounds(1, 5, 0), -6);
        due("21 t above", x.rounds(1, 4, 1000), -6);
        pitcherWaits();
    }

    private static void pitcherWaits() {
        // 2 minutes to load, none to go: home at 4, 6, 8, .. with two wagons; with one at 4, 8, 12.
        LoadedForTheLane x = loaded("yl060+0;f999;");
        due("21 one by one", x.rounds(0, 1, 12), 18);
        due("21 the pitcher rests never", x.rounds(0, 2, 12), 30);
        due("21 three are no more", x.rounds(0, 3, 12), 30);
        x.set(2, 9);
        // A minute each.
        due("21 quicker", x.rounds(0, 2, 12), 66);
        x.set(1, 1);
        due("21 skill is nothing here", x.rounds(0, 2, 12), 66);
    }

    private static void promise22() {
        LoadedForTheLane x = loaded("yl090+0;f999;", "w0s102;w0s103;w1g051;");
        due("22 worth", x.worth(0, 1, 14), 9);
        due("22 nothing yet", x.worth(0, 1, 13), 0);
        due("22 the fourth", x.worth(0, 3, 20), 9);
        x.set(3, 12);
        due("22 field", x.worth(0, 1, 14), 3);
        due("22 slips", x.worth(1, 1, 1), WIDE + 3);
        due("22 no layers", new LoadedForTheLane().worth(0, 1, 1), WIDE + 3);
        due("22 way", x.worth(2, 0, 0), WIDE + 1);
        due("22 way below", x.worth(-1, 1, 0), WIDE + 1);
        due("22 n below", x.worth(0, 0, 1000), WIDE + 4);
        due("22 t below", x.worth(0, 4, -1), WIDE + 4);
        due("22 n above", x.worth(0, 4, 0), WIDE + 6);
        due("22 t above", x.worth(0, 3, 1000), WIDE + 6);
        due("22 counted once each", x.count(11) * 1000 + x.count(13) * 100 + x.count(14) * 10 + x.count(16), 2122);
    }

    private static void promise23() {
        LoadedForTheLane x = loaded("w0s103;w1s109;w1s109;");
        long[] above = {1, 729, 64, 343, 27, 1, 8, 27, 1, 1};
        long[] below = {1, 1000, 125, 1000, 125, 8, 125, 1000, 125, 1000};
        for (int t = 0; t <= 9; t++) {
            due("23 above " + t, x.thunder(0, t, 0), above[t]);
            due("23 below " + t, x.thunder(0, t, 1), below[t]);
        }
        due("23 twelve at most", x.thunder(1, 9, 1), 1000000000000L);
        due("23 twelve at most", x.thunder(1, 1, 0), 282429536481L);
        due("23 no minutes", new LoadedForTheLane().thunder(0, 9, 1), 1);
        due("23 it need not hold", loaded("yl010+0;w0g051;").thunder(0, 9, 1), 10);
        due("23 way", x.thunder(2, -1, 2), LONG + 1);
        due("23 way below", x.thunder(-1, 0, 0), LONG + 1);
        due("23 t below", x.thunder(0, -1, 2), LONG + 4);
        due("23 t above", x.thunder(0, 10, 2), LONG + 6);
        due("23 part", x.thunder(0, 9, 2), LONG + 2);
        due("23 part below", x.thunder(0, 0, -1), LONG + 2);
        due("23 counted", x.count(11) * 1000 + x.count(12) * 100 + x.count(14) * 10 + x.count(16), 2211);
    }

    private static void promise24() {
        // DIP 20: LOADS 300, 200, 100 by 3: 100, 66, 33; BINDINGS 50, 80, 17.
        LoadedForTheLane x = loaded("yl100+0;yb102+0;yh102+0;", "w0d201;w0d001;w0g091;w0g101;w1r001;");
        due("24 two", x.fell(0, 0), 5);
        due("24 none", x.fell(0, 1), 0);
        due("24 gate", x.fell(0, 2), 2);
        due("24 gate holds", x.fell(0, 3), 0);
        due("24 branch holds", x.fell(1, 0), 0);
        load(x, "yl010+0;yl010+0;");
        due("24 branch", x.fell(1, 0), 16);
        x.set(0, 5);
        due("24 ropes", x.fell(0, 0), 0);
        due("24 ropes are nothing to a branch", x.fell(1, 0), 16);
        due("24 piece", x.fell(1, 1), -1);
        due("24 piece below", x.fell(1, -1), -1);
        due("24 way", x.fell(2, 0), -1);
        due("24 way below", x.fell(-1, 0), -1);
        due("24 no layers", loaded("w0g001;").fell(0, 0), 0);
    }

    private static void promise25() {
        LoadedForTheLane x = loaded("yl100+0;yb102+0;yh102+0;", "w0d201;w0d001;w0g091;w1r001;");
        // Layer 0 lacks 50, layer 2 lacks 33 less 15.
        due("25 least lack", x.whose(0, 0), 2);
        due("25 none", x.whose(0, 1), -9);
        due("25 gate", x.whose(0, 2), 1);
        due("25 branch holds", x.whose(1, 0), -9);
        load(x, "yl010+0;yl010+0;");
        due("25 branch", x.whose(1, 0), 4);
        LoadedForTheLane y = loaded("yl010+0;yl010+0;yl010+0;", "w0j121;");
        // LOADS 30, 20, 10: DIP's 6, 4, 2, times 1, 2, 3 by 3: 2, 2, 2 of 5.
        due("25 all hold", y.whose(0, 0), -9);
        due("25 alike", loaded("yh010+0;yh010+0;yh010+0;w0j121;").whose(0, 0), 0);
        due("25 alike, but the first", loaded("yl010+0;yh010+0;yh010+0;w0j121;").whose(0, 0), 1);
        due("25 piece", x.whose(1, 1), -1);
        due("25 piece below", x.whose(1, -1), -1);
        due("25 way", x.whose(2, 0), -1);
        due("25 way below", x.whose(-1, 0), -1);
    }

    private static void promise26() {
        LoadedForTheLane x = new LoadedForTheLane();
        due("26 none told: least", x.boundBy(999, 0), 0);
        due("26 none told: greatest", x.boundBy(999, 1), 20);
        rows(x, 10, 1);
        due("26 one number held", x.boundBy(35, 0), 4);
        due("26 up to 20", x.boundBy(35, 1), 20);
        rows(x, 4, 0);
        due("26 and one slipped", x.boundBy(35, 0), 4);
        due("26 up to 8", x.boundBy(35, 1), 8);
        due("26 just held", x.boundBy(40, 0), 4);
        due("26 just below", x.boundBy(40, 1), 9);
        rows(x, 6, 1, 5, 0);
        due("26 narrower", x.boundBy(36, 0), 6);
        due("26 narrower", x.boundBy(36, 1), 7);
        due("26 at 0 none slipped", x.boundBy(0, 0), -9);
        due("26 not by 20", x.boundBy(201, 1), -9);
        due("26 the row stays", x.count(8), 8);
        due("26 below", x.boundBy(-1, 2), -4);
        due("26 above", x.boundBy(1000, 2), -6);
        due("26 what", x.boundBy(5, 2), -2);
        due("26 what below", x.boundBy(5, -1), -2);
        rows(x, 0);
        due("26 no twos", x.boundBy(5, 0), -3);
        rows(x, 2);
        due("26 no 0, 1", x.boundBy(5, 0), -3);
        due("26 the row stays", x.count(8), 10);
        LoadedForTheLane y = new LoadedForTheLane();
        rows(y, 0, 1);
        due("26 no sheaves hold 0", y.boundBy(0, 1), 20);
        due("26 no sheaves hold nothing", y.boundBy(1, 0), -9);
        LoadedForTheLane w = new LoadedForTheLane();
        rows(w, 10, 1);
        due("26 just by 20", w.boundBy(200, 0), 20);
        due("26 just by 20", w.boundBy(200, 1), 20);
        LoadedForTheLane v = new LoadedForTheLane();
        rows(v, 10, 0);
        due("26 just by 0", v.boundBy(10, 0), 0);
        due("26 just by 0", v.boundBy(10, 1), 0);
        LoadedForTheLane z = new LoadedForTheLane();
        rows(z, 3, 0, 2, 1);
        due("26 never so", z.boundBy(12, 0), -9);
        due("26 never so", z.boundBy(12, 1), -9);
    }

    private static void promise27() {
        LoadedForTheLane x = new LoadedForTheLane();
        due("27 least", x.row(0), 1);
        due("27 greatest", x.row(99), 2);
        due("27 below", x.row(-1), -4);
        due("27 above", x.row(100), -6);
        for (int n = 3; n <= 12; n++) {
            due("27 row", x.row(7), n);
        }
        due("27 full", x.row(7), -6);
        due("27 full and below", x.row(-1), -4);
        due("27 still full", x.count(8), 12);
        due("27 counted", x.count(14) * 10 + x.count(16), 22);
    }

    private static void promise28() {
        LoadedForTheLane x = loaded("yl100+0;yb050+0;yl200+0;", "w0d181;r4;");
        // LOADS 350, 250, 200: DIP 105, 75, 60; BINDINGS 50, 40, 100: layer 0 wants four ropes, layer 1 three.
        rows(x, 0, 0, 0, 0, 99, 99, 99, 99);
        due("28 so", x.judge(0), -9);
        due("28 no row any more", x.count(8), 0);
        due("28 ropes stay", x.count(7), 4);
        rows(x, 0, 0, 1, 0, 5);
        due("28 the third is not so", x.judge(0), 2);
        due("28 no row any more", x.count(8), 0);
        rows(x, 0, 0, 0, 0, 0);
        due("28 it holds", x.judge(0), 4);
        due("28 none told", x.judge(0), -9);
        rows(x, 99, 3);
        due("28 way", x.judge(2), -1);
        due("28 way below", x.judge(-1), -1);
        due("28 the row stays", x.count(8), 2);
        due("28 the other way", x.judge(1), 1);
        // A third of LOADS 440, 240, 200: 146, 80, 66; BINDINGS 100, 0, 100.
        LoadedForTheLane y = loaded("yl200+0;yh040+0;yl200+0;", "w0d201;");
        rows(y, 0, 0, 0, 0, 1, 1, 1);
        due("28 above the most ropes", y.judge(0), 6);
        rows(y, 0, 0, 0, 0, 1, 1, 99);
        due("28 so, above the most ropes", y.judge(0), -9);
    }

    private static void promise29() {
        LoadedForTheLane x = loaded("yl010+0;", "w0g001;w1g151;");
        due("29 none", x.lots(0, 30, 5), 0);
        due("29 stays", x.layer(0, 2), 0);
        due("29 no layers", new LoadedForTheLane().lots(0, 30, 5), 30);
        due("29 no pieces", loaded("yl010+0;").lots(0, 1, -5), 1);
        due("29 one wagon by hand", x.lots(1, 1, 0), heldByHand(1, 0, 4));
        due("29 many", x.lots(1, 30, 12345), heldByHand(30, 12345, 4));
        due("29 seed below 0", x.lots(1, 30, Integer.MIN_VALUE), heldByHand(30, Integer.MIN_VALUE, 4));
        LoadedForTheLane y = loaded("yl010+0;", "w0s101;w1s151;");
        due("29 leans", y.lots(1, 30, 7), slopesByHand(30, 7));
        due("29 way", x.lots(2, 0, 0), -1);
        due("29 way below", x.lots(-1, 1, 0), -1);
        due("29 n below", x.lots(0, 0, 0), -4);
        due("29 n above", x.lots(0, 31, 0), -6);
    }

    /** How many of n draws of OUT (each before one of LEAN) are no more than a number. */
    private static int heldByHand(int n, int z, int most) {
        int held = 0;
        int seed = z;
        for (int i = 0; i < n; i++) {
            seed = seed * 1664525 + 1013904223;
            held += (seed & 0x7fffffff) / 256 % 10 <= most ? 1 : 0;
            seed = seed * 1664525 + 1013904223;
        }
        return held;
    }

    /** One SHEAF (10; BINDING 5) on a SLOPE of 15: held at LEANS that make 5 and LEAN no more than 23: all. */
    private static int slopesByHand(int n, int z) {
        int held = 0;
        int seed = z;
        for (int i = 0; i < n; i++) {
            seed = (seed * 1664525 + 1013904223) * 1664525 + 1013904223;
            int lean = (seed & 0x7fffffff) / 256 % 11 - 5;
            held += 10 * Math.abs(5 + lean) / 40 <= 5 ? 1 : 0;
        }
        return held;
    }

    private static void promise30And31() {
        LoadedForTheLane x = loaded("yl101+2;yb050+0;", "w0d183;r4;k56;f70;");
        due("31 none", x.on(), -3);
        due("30 two", x.image(), 2);
        load(x, "u;yw203-1;yw203-1;w0s101;w1s101;r1;k11;f1;");
        x.out(0, 9);
        tell(x, "abc");
        rows(x, 1, 2);
        due("31 two again", x.on(), 2);
        due("31 out", x.layer(0, 2), 1);
        due("31 kind", x.layer(1, 0), 1);
        due("31 sheaves", x.layer(1, 1), 5);
        due("31 lean", x.layer(0, 3), 2);
        due("31 load", x.layer(0, 7), 150);
        due("31 binding", x.layer(1, 5), 40);
        due("31 pieces", x.count(1) * 10 + x.count(2), 10);
        due("31 piece", x.piece(0, 0, 1), 18);
        due("31 ropes", x.set(0, 0), 4);
        due("31 skill", x.set(1, 1), 5);
        due("31 pitch", x.set(2, 1), 6);
        due("31 field", x.set(3, 1), 70);
        due("31 letters stay", x.count(9), 3);
        due("31 the row stays", x.count(8), 2);
        due("31 refusals stay", x.count(13), 1);
        x.off();
        due("31 once more", x.on(), 2);
        due("31 ropes once more", x.count(7), 4);
        x.off();
        x.off();
        due("30 anew", x.image(), 0);
        load(x, "yl010+0;");
        due("31 anew", x.on(), 0);
    }

    private static void promise32() {
        LoadedForTheLane x = loaded("yo071+0;yt054+0;yw060+0;", "w0s011;w0s011;w1s011;r3;");
        tell(x, "ab");
        rows(x, 1, 2, 3, 4);
        int[] answers = {3, 2, 1, 28, 104, 70 + 110 + 84, 18, 3, 4, 2, -9};
        for (int what = 0; what < answers.length; what++) {
            due("32 count " + what, x.count(what), answers[what]);
        }
        x.home(2);
        x.home(2);
        x.slips(0, 2);
        x.on();
        x.row(-1);
        x.row(100);
        int[] refusals = {2, 1, 1, 1, 0, 1};
        for (int i = 0; i < refusals.length; i++) {
            due("32 refusals " + (i + 1), x.count(11 + i), refusals[i]);
        }
        due("32 another", x.count(-1), -9);
        due("32 another", x.count(17), -9);
        due("32 another", x.count(Integer.MAX_VALUE), -9);
        due("32 none of these is counted", x.count(12), 1);
    }
}
