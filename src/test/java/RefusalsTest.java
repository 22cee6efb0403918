import java.util.ArrayList;
import java.util.List;

/**
 * Every call with every mixture of numbers on and beyond its bounds, on several wagons: the REFUSAL that comes first is
 * answered and counted once, nothing else changes; what is not refused counts nothing.
 */
public final class RefusalsTest {
    private static final int MIN = Integer.MIN_VALUE;
    private static final int MAX = Integer.MAX_VALUE;
    private static final long WIDE = 1000000000L;
    private static final long LONG = 4000000000000000000L;
    private static final int[] WAYS = {MIN, -1, 0, 1, 2, MAX};
    private static final int[] PIECES = {MIN, -1, 0, 1, 5, 6, MAX};
    private static final int[] LAYERS = {MIN, -1, 0, 1, 10, 11, MAX};
    private static final int[] SEEDS = {MIN, -1, 0, MAX};

    private static int asked = 0;
    private static int wrong = 0;

    private interface Call {
        long of(LoadedForTheLane x, int[] n);
    }

    /** The REFUSAL that is due, 0 if there is none. */
    private interface Refusal {
        int of(Wagon w, int[] n);
    }

    /** A wagon as it was made, and what its maker knows of it. */
    private static final class Wagon {
        private final String name;
        private final String[] texts;
        private final int[] row;
        private final int letters;
        private int layers;
        private final int[] pieces = new int[2];
        private final boolean[] slips;
        private boolean image;

        private Wagon(String name, int letters, int[] row, boolean[] slips, String... texts) {
            this.name = name;
            this.letters = letters;
            this.row = row;
            this.slips = slips;
            this.texts = texts;
            for (String text : texts) {
                for (String statement : text.split(";")) {
                    layers += statement.startsWith("y") ? 1 : 0;
                    pieces[0] += statement.startsWith("w0") ? 1 : 0;
                    pieces[1] += statement.startsWith("w1") ? 1 : 0;
                }
            }
        }

        private LoadedForTheLane make() {
            LoadedForTheLane x = new LoadedForTheLane();
            for (String text : texts) {
                Sentences.load(x, text);
            }
            if (image) {
                x.image();
            }
            Sentences.rows(x, row);
            Sentences.tell(x, Sentences.times(letters, "r"));
            return x;
        }

        private boolean noWay(int way) {
            return way != 0 && way != 1;
        }

        private boolean noPiece(int way, int piece) {
            return noWay(way) || piece < 0 || piece >= pieces[way];
        }

        private boolean noLayer(int layer) {
            return layer < 0 || layer >= layers;
        }
    }

    private static List<Wagon> wagons() {
        List<Wagon> wagons = new ArrayList<>();
        boolean[] none = {false, false};
        wagons.add(new Wagon("empty", 0, new int[0], none));
        wagons.add(new Wagon("ways without a load", 0, new int[] {1, 1}, none, "w0s101;w0s101;w1g001;"));
        wagons.add(new Wagon("a load without ways", 95, new int[] {1, 2}, none, "yl200+0;yb200+0;"));
        Wagon full = new Wagon("full", 96, new int[] {1, 1, 1, 1, 1, 1, 1, 1, 1, 1, 1, 1}, new boolean[] {false, true},
            "yl010+0;".repeat(11), "w0s101;".repeat(6), "w1g009;".repeat(6), "r5;k99;f999;");
        full.image = true;
        wagons.add(full);
        Wagon other = new Wagon("it slips on way 0", 1, new int[] {1, 1, 1}, new boolean[] {true, false},
            "yl010+0;yo109-5;yh209+5;", "w0b201;w0r001;w1d001;");
        other.image = true;
        wagons.add(other);
        return wagons;
    }

    private static boolean twos(int[] row) {
        for (int i = 1; i < row.length; i += 2) {
            if (row[i] > 1) {
                return false;
            }
        }
        return row.length % 2 == 0;
    }

    private static int below(int number, int least) {
        return number < least ? -4 : 0;
    }

    private static int above(int number, int greatest) {
        return number > greatest ? -6 : 0;
    }

    private static int first(int... refusals) {
        for (int refusal : refusals) {
            if (refusal != 0) {
                return refusal;
            }
        }
        return 0;
    }

    private static int nobody(boolean none) {
        return none ? -1 : 0;
    }

    private static int other(int what, int greatest) {
        return what < 0 || what > greatest ? -2 : 0;
    }

    private static int state(boolean wrongState) {
        return wrongState ? -3 : 0;
    }

    public static void main(String[] args) {
        oneNumber();
        ofAWay();
        severalNumbers();
        rounds();
        System.out.println(asked + " answers looked at, " + wrong + " not as due");
        if (wrong != 0) {
            System.exit(1);
        }
    }

    private static void oneNumber() {
        int[] whats = {MIN, -1, 0, 9, 10, 11, 16, 17, MAX};
        mix("letter", (x, n) -> x.letter(n[0]), 0,
            (w, n) -> first(below(n[0], 0), above(n[0], 255), w.letters == 96 ? -6 : 0),
            new int[] {MIN, -1, 0, 255, 256, MAX});
        mix("load", (x, n) -> x.load(), 0, (w, n) -> 0);
        mix("off", (x, n) -> x.off(), 0, (w, n) -> state(w.layers == 0));
        mix("which", (x, n) -> x.which(), 0, (w, n) -> 0);
        mix("pitching", (x, n) -> x.pitching(n[0]), 0, (w, n) -> first(below(n[0], 1), above(n[0], 9)),
            new int[] {MIN, -1, 0, 1, 9, 10, MAX});
        mix("row", (x, n) -> x.row(n[0]), 0,
            (w, n) -> first(below(n[0], 0), above(n[0], 99), w.row.length == 12 ? -6 : 0),
            new int[] {MIN, -1, 0, 99, 100, MAX});
        mix("image", (x, n) -> x.image(), 0, (w, n) -> 0);
        mix("on", (x, n) -> x.on(), 0, (w, n) -> state(!w.image));
        mix("count", (x, n) -> x.count(n[0]), 0, (w, n) -> 0, whats);
    }

    private static void ofAWay() {
        mix("margin", (x, n) -> x.margin(n[0]), WIDE, (w, n) -> nobody(w.noWay(n[0])), WAYS);
        mix("high", (x, n) -> x.high(n[0]), 0, (w, n) -> nobody(w.noWay(n[0])), WAYS);
        mix("more", (x, n) -> x.more(n[0]), 0, (w, n) -> first(nobody(w.noWay(n[0])), state(w.layers == 0)), WAYS);
        mix("leaning", (x, n) -> x.leaning(n[0]), WIDE, (w, n) -> nobody(w.noWay(n[0])), WAYS);
        mix("enough", (x, n) -> x.enough(n[0]), 0, (w, n) -> nobody(w.noWay(n[0])), WAYS);
        mix("home", (x, n) -> x.home(n[0]), 0, (w, n) -> nobody(w.noWay(n[0])), WAYS);
        mix("quick", (x, n) -> x.quick(n[0]), 0, (w, n) -> nobody(w.noWay(n[0])), WAYS);
        mix("judge", (x, n) -> x.judge(n[0]), 0, (w, n) -> nobody(w.noWay(n[0])), WAYS);
        mix("slips", (x, n) -> x.slips(n[0], n[1]), 0, (w, n) -> first(nobody(w.noWay(n[0])), other(n[1], 1)),
            WAYS, new int[] {MIN, -1, 0, 1, 2, MAX});
        mix("fell", (x, n) -> x.fell(n[0], n[1]), 0, (w, n) -> nobody(w.noPiece(n[0], n[1])), WAYS, PIECES);
        mix("whose", (x, n) -> x.whose(n[0], n[1]), 0, (w, n) -> nobody(w.noPiece(n[0], n[1])), WAYS, PIECES);
        mix("farOut", (x, n) -> x.farOut(n[0], n[1]), 0, (w, n) -> nobody(w.noWay(n[0]) || w.noLayer(n[1])),
            WAYS, LAYERS);
    }

    private static void severalNumbers() {
        mix("layer", (x, n) -> x.layer(n[0], n[1]), WIDE, (w, n) -> first(nobody(w.noLayer(n[0])), other(n[1], 7)),
            LAYERS, new int[] {MIN, -1, 0, 7, 8, MAX});
        mix("piece", (x, n) -> x.piece(n[0], n[1], n[2]), 0,
            (w, n) -> first(nobody(w.noPiece(n[0], n[1])), other(n[2], 2)), WAYS, PIECES,
            new int[] {MIN, -1, 0, 2, 3, MAX});
        mix("out", (x, n) -> x.out(n[0], n[1]), 0,
            (w, n) -> first(nobody(w.noLayer(n[0])), below(n[1], 0), above(n[1], 9)), LAYERS,
            new int[] {MIN, -1, 0, 9, 10, MAX});
        int[] least = {0, 1, 1, 0};
        int[] greatest = {5, 9, 9, 999};
        mix("set", (x, n) -> x.set(n[0], n[1]), 0,
            (w, n) -> other(n[0], 3) != 0 ? -2 : first(below(n[1], least[n[0]]), above(n[1], greatest[n[0]])),
            new int[] {MIN, -1, 0, 1, 2, 3, 4, MAX}, new int[] {MIN, -1, 0, 1, 5, 6, 9, 10, 999, 1000, MAX});
        mix("shift", (x, n) -> x.shift(n[0], n[1], n[2]), 0,
            (w, n) -> nobody(w.noPiece(n[0], n[1]) || w.noLayer(n[2])), WAYS, PIECES, LAYERS);
        mix("boundBy", (x, n) -> x.boundBy(n[0], n[1]), 0,
            (w, n) -> first(below(n[0], 0), above(n[0], 999), other(n[1], 1), state(!twos(w.row))),
            new int[] {MIN, -1, 0, 999, 1000, MAX}, new int[] {MIN, -1, 0, 1, 2, MAX});
        mix("lots", (x, n) -> x.lots(n[0], n[1], n[2]), 0,
            (w, n) -> first(nobody(w.noWay(n[0])), below(n[1], 1), above(n[1], 30)), WAYS,
            new int[] {MIN, -1, 0, 1, 30, 31, MAX}, SEEDS);
    }

    private static void rounds() {
        int[] wagons = {MIN, -1, 0, 1, 3, 4, 5, MAX};
        int[] times = {MIN, -1, 0, 999, 1000, MAX};
        mix("rounds", (x, n) -> x.rounds(n[0], n[1], n[2]), 0, (w, n) -> roundsRefused(w, n, 4), WAYS, wagons, times);
        mix("worth", (x, n) -> x.worth(n[0], n[1], n[2]), WIDE, (w, n) -> roundsRefused(w, n, 3), WAYS, wagons, times);
        mix("thunder", (x, n) -> x.thunder(n[0], n[1], n[2]), LONG,
            (w, n) -> first(nobody(w.noWay(n[0])), below(n[1], 0), above(n[1], 9), other(n[2], 1)), WAYS,
            new int[] {MIN, -1, 0, 9, 10, MAX}, new int[] {MIN, -1, 0, 1, 2, MAX});
    }

    private static int roundsRefused(Wagon w, int[] n, int greatest) {
        return first(nobody(w.noWay(n[0])), below(n[1], 1), below(n[2], 0), above(n[1], greatest), above(n[2], 999),
            state(!w.noWay(n[0]) && (w.layers == 0 || w.slips[n[0]])));
    }

    /** Each mixture of the numbers, each on a wagon of its own. */
    private static void mix(String name, Call call, long told, Refusal refusal, int[]... numbers) {
        int mixtures = 1;
        for (int[] some : numbers) {
            mixtures *= some.length;
        }
        for (Wagon wagon : wagons()) {
            for (int mixture = 0; mixture < mixtures; mixture++) {
                int[] n = new int[numbers.length];
                int left = mixture;
                for (int i = 0; i < n.length; i++) {
                    n[i] = numbers[i][left % numbers[i].length];
                    left /= numbers[i].length;
                }
                ask(name, call, told, refusal.of(wagon, n), wagon, n);
            }
        }
    }

    private static void ask(String name, Call call, long told, int refusal, Wagon wagon, int[] n) {
        LoadedForTheLane x = wagon.make();
        String was = refusal == 0 ? "" : Sentences.seen(x);
        String counted = Sentences.refusalsSeen(x);
        long answer = call.of(x, n);
        asked++;
        int[] want = new int[6];
        if (refusal != 0) {
            want[-refusal - 1] = 1;
        }
        StringBuilder due = new StringBuilder();
        for (int one : want) {
            due.append(one).append(' ');
        }
        // An answer that is no REFUSAL may be a number like one (a LEAN, a MARGIN); the counts tell them apart.
        boolean right = counted.equals("0 0 0 0 0 0 ") && Sentences.refusalsSeen(x).equals(due.toString());
        if (refusal != 0) {
            right &= answer == (told == 0 ? refusal : told - refusal) && Sentences.seen(x).equals(was);
        }
        if (!right) {
            wrong++;
            if (wrong <= 20) {
                StringBuilder numbers = new StringBuilder();
                for (int number : n) {
                    numbers.append(' ').append(number);
                }
                System.out.println(wagon.name + ": " + name + numbers + " answered " + answer + ", due is refusal "
                    + refusal + "; refusals counted: " + Sentences.refusalsSeen(x));
            }
        }
    }
}
