import java.math.BigInteger;
import java.util.ArrayList;
import java.util.List;
import java.util.Random;
import java.util.function.ToIntFunction;
import java.util.regex.Matcher;
import java.util.regex.Pattern;

/**
 * Runs of calls by lot (with seeds of their own, the same each time), each answer looked at against a model that is
 * written another way: kinds as classes one under the other, a load made anew for each question, rounds minute by
 * minute, letters by a regular expression.
 */
public final class ModelTest {
    private static final long WIDE = 1000000000L;
    private static final long LONG = 4000000000000000000L;

    private static int wrong = 0;
    private static int asked = 0;

    public static void main(String[] args) {
        for (int run = 0; run < 3000; run++) {
            run(run);
        }
        System.out.println(asked + " answers looked at, " + wrong + " not as the model's");
        if (wrong != 0) {
            System.exit(1);
        }
    }

    // ---- kinds, each under another

    private static class Layer {
        final int sheaves;
        final int out;
        final int lean;

        Layer(int sheaves, int out, int lean) {
            this.sheaves = sheaves;
            this.out = out;
            this.lean = lean;
        }

        char letter() { return 'l'; }
        int weight() { return sheaves * 10; }
        int binding() { return sheaves * 5; }
        int thick() { return 9; }
    }

    private static class Bound extends Layer {
        Bound(int s, int o, int l) { super(s, o, l); }
        @Override char letter() { return 'b'; }
        @Override int binding() { return super.binding() + sheaves * 3; }
    }

    private static class Loose extends Layer {
        Loose(int s, int o, int l) { super(s, o, l); }
        @Override char letter() { return 'o'; }
        @Override int binding() { return super.binding() / 2; }
        @Override int thick() { return super.thick() + 2; }
    }

    private static class Wet extends Layer {
        Wet(int s, int o, int l) { super(s, o, l); }
        @Override char letter() { return 'w'; }
        @Override int weight() { return super.weight() + sheaves * 4; }
        @Override int thick() { return super.thick() - 1; }
    }

    private static final class Hurried extends Loose {
        Hurried(int s, int o, int l) { super(s, o, l); }
        @Override char letter() { return 'h'; }
        @Override int binding() { return Math.max(super.binding() - 10, 0); }
    }

    private static final class Top extends Bound {
        Top(int s, int o, int l) { super(s, o, l); }
        @Override char letter() { return 't'; }
        @Override int weight() { return super.weight() + 60; }
    }

    private static final class Matted extends Wet {
        Matted(int s, int o, int l) { super(s, o, l); }
        @Override char letter() { return 'm'; }
        @Override int binding() { return super.binding() + sheaves * 2; }
    }

    private static Layer layerOf(char letter, int s, int o, int l) {
        switch (letter) {
            case 'b': return new Bound(s, o, l);
            case 'o': return new Loose(s, o, l);
            case 'w': return new Wet(s, o, l);
            case 'h': return new Hurried(s, o, l);
            case 't': return new Top(s, o, l);
            case 'm': return new Matted(s, o, l);
            default: return new Layer(s, o, l);
        }
    }

    private static class Slope {
        final int figure;
        final int minutes;

        Slope(int figure, int minutes) {
            this.figure = figure;
            this.minutes = minutes;
        }

        char letter() { return 's'; }
        boolean shifts() { return true; }

        int shift(Model m, int k) {
            int sum = figure - 10 + m.layers.get(k).lean;
            return m.loadOf(k) * (sum < 0 ? -sum : sum) / 40;
        }

        /** By how much a layer lacks; null if it holds. */
        Integer lack(Model m, int k) {
            int lack = shift(m, k) - m.strength(k);
            return lack > 0 ? lack : null;
        }
    }

    private static class Dip extends Slope {
        Dip(int f, int m) { super(f, m); }
        @Override char letter() { return 'd'; }
        @Override int shift(Model m, int k) { return m.loadOf(k) * figure / 60; }
    }

    private static final class Jerk extends Dip {
        Jerk(int f, int m) { super(f, m); }
        @Override char letter() { return 'j'; }
        @Override int shift(Model m, int k) { return super.shift(m, k) * (k + 1) / 3; }
    }

    private static final class Bend extends Slope {
        Bend(int f, int m) { super(f, m); }
        @Override char letter() { return 'b'; }
        @Override int shift(Model m, int k) { return m.loadOf(k) * (figure + m.layers.get(k).out) / 50; }
    }

    private static class Branch extends Slope {
        Branch(int f, int m) { super(f, m); }
        @Override char letter() { return 'r'; }
        @Override boolean shifts() { return false; }
        @Override int shift(Model m, int k) { return 0; }
        int one(Model m) { return m.height() > 40 + 4 * figure ? m.layers.size() - 1 : -1; }
        @Override Integer lack(Model m, int k) { return k == one(m) ? Integer.valueOf(0) : null; }
    }

    private static final class Gate extends Branch {
        Gate(int f, int m) { super(f, m); }
        @Override char letter() { return 'g'; }
        @Override int one(Model m) {
            int greatest = m.greatestOut();
            for (int k = 0; k < m.layers.size() && m.width() > 90 + figure; k++) {
                if (m.layers.get(k).out == greatest) {
                    return k;
                }
            }
            return -1;
        }
    }

    private static Slope pieceOf(char letter, int f, int m) {
        switch (letter) {
            case 'd': return new Dip(f, m);
            case 'j': return new Jerk(f, m);
            case 'b': return new Bend(f, m);
            case 'r': return new Branch(f, m);
            case 'g': return new Gate(f, m);
            default: return new Slope(f, m);
        }
    }

    // ---- the model's state

    private static final class Model {
        List<Layer> layers = new ArrayList<>();
        List<List<Slope>> ways = List.of(new ArrayList<>(), new ArrayList<>());
        int[] settings = {0, 4, 3, 200};
        int badPitch = 0;

        Model copy() {
            Model c = new Model();
            c.layers = new ArrayList<>(layers);
            c.ways = List.of(new ArrayList<>(ways.get(0)), new ArrayList<>(ways.get(1)));
            c.settings = settings.clone();
            return c;
        }

        int sum(ToIntFunction<Layer> of) { return layers.stream().mapToInt(of).sum(); }
        int height() { return sum(Layer::thick); }
        int greatestOut() { return layers.stream().mapToInt(l -> l.out).max().orElse(0); }
        int width() { return 96 + 2 * greatestOut(); }
        int loadOf(int k) { return layers.subList(k, layers.size()).stream().mapToInt(Layer::weight).sum(); }

        int strength(int k) {
            Layer l = layers.get(k);
            int bad = Math.max(0, badPitch - settings[1]) * l.sheaves / 9;
            return Math.max(0, l.binding() - 4 * bad) + 15 * settings[0];
        }

        /** PIECE and LAYER of the slip; null if it holds. */
        int[] slip(int way) {
            for (int p = 0; p < ways.get(way).size(); p++) {
                for (int k = 0; k < layers.size(); k++) {
                    if (ways.get(way).get(p).lack(this, k) != null) {
                        return new int[] {p, k};
                    }
                }
            }
            return null;
        }

        boolean holds(int way) { return slip(way) == null; }
        int minutes(int way) { return ways.get(way).stream().mapToInt(p -> p.minutes).sum(); }
        int home(int way) { return holds(way) ? minutes(way) : -9; }
        int pitching(int pitch) { return (int) Math.ceil(sum(l -> l.sheaves) / (double) pitch); }

        int margin(int way) {
            int least = 9999;
            for (Slope p : ways.get(way)) {
                for (int k = 0; k < layers.size() && p.shifts(); k++) {
                    least = Math.min(least, strength(k) - p.shift(this, k));
                }
            }
            return least;
        }

        void relay(int k, int out, int lean) {
            Layer l = layers.get(k);
            layers.set(k, layerOf(l.letter(), l.sheaves, out, lean));
        }

        /** Minute by minute. */
        int rounds(int way, int n, int t) {
            int pitching = pitching(settings[2]);
            int[] waitsSince = new int[n];
            int[] homeAt = new int[n];
            int[] backAt = new int[n];
            int free = 0;
            int home = 0;
            for (int minute = 0; minute <= t; minute++) {
                for (int w = 0; w < n; w++) {
                    if (waitsSince[w] < 0 && homeAt[w] == minute) {
                        home += sum(l -> l.sheaves);
                    }
                    if (waitsSince[w] < 0 && backAt[w] == minute) {
                        waitsSince[w] = minute;
                    }
                }
                int next = -1;
                for (int w = 0; w < n && free <= minute; w++) {
                    if (waitsSince[w] >= 0 && (next < 0 || waitsSince[w] < waitsSince[next])) {
                        next = w;
                    }
                }
                if (next >= 0) {
                    waitsSince[next] = -1;
                    free = minute + pitching;
                    homeAt[next] = free + minutes(way) + pitching;
                    backAt[next] = homeAt[next] + minutes(way);
                }
            }
            return Math.min(home, settings[3]);
        }
    }

    private static final class Whole {
        private static final Pattern FORM = Pattern.compile(
            "(?:y[lbowhtm]\\d\\d\\d[+-]\\d;|w\\d[sdjbrg]\\d\\d\\d;|r\\d;|k\\d\\d;|f\\d{1,3};|u;)+");

        Model now = new Model();
        Model image = null;
        final StringBuilder letters = new StringBuilder();
        final List<Integer> row = new ArrayList<>();
        final int[] refusals = new int[7];

        long refuse(int number) {
            refusals[-number]++;
            return number;
        }

        long wide(int number) { return WIDE - refuse(number); }

        boolean noWay(int way) { return way != 0 && way != 1; }
        boolean noLayer(int k) { return k < 0 || k >= now.layers.size(); }
        boolean noPiece(int way, int p) { return noWay(way) || p < 0 || p >= now.ways.get(way).size(); }

        long letter(int c) {
            if (c < 0) return refuse(-4);
            if (c > 255 || letters.length() == 96) return refuse(-6);
            letters.append((char) c);
            return letters.length();
        }

        long load() {
            String text = letters.toString();
            letters.setLength(0);
            for (int i = 0; i < text.length(); i++) {
                Matcher m = FORM.matcher(text.substring(0, i + 1));
                if (!m.matches() && !m.hitEnd()) {
                    return -1000 - i;
                }
            }
            if (!FORM.matcher(text).matches()) {
                return -1000 - text.length();
            }
            Model next = now.copy();
            int place = 0;
            String[] statements = text.split(";");
            for (String statement : statements) {
                if (!comes(next, statement)) {
                    return -2000 - place;
                }
                place += statement.length() + 1;
            }
            now = next;
            return statements.length;
        }

        private static boolean comes(Model m, String s) {
            switch (s.charAt(0)) {
                case 'y': {
                    int sheaves = Integer.parseInt(s.substring(2, 4));
                    int lean = Integer.parseInt(s.substring(5));
                    if (sheaves < 1 || sheaves > 20 || lean < -5 || lean > 5 || m.layers.size() == 11) return false;
                    m.layers.add(layerOf(s.charAt(1), sheaves, s.charAt(4) - '0', lean));
                    return true;
                }
                case 'w': {
                    int way = s.charAt(1) - '0';
                    int figure = Integer.parseInt(s.substring(3, 5));
                    int minutes = s.charAt(5) - '0';
                    if (way > 1 || figure > 20 || minutes < 1 || m.ways.get(way).size() == 6) return false;
                    m.ways.get(way).add(pieceOf(s.charAt(2), figure, minutes));
                    return true;
                }
                case 'r':
                    m.settings[0] = s.charAt(1) - '0';
                    return m.settings[0] <= 5;
                case 'k':
                    m.settings[1] = s.charAt(1) - '0';
                    m.settings[2] = s.charAt(2) - '0';
                    return m.settings[1] > 0 && m.settings[2] > 0;
                case 'f':
                    m.settings[3] = Integer.parseInt(s.substring(1));
                    return true;
                default:
                    if (m.layers.isEmpty()) return false;
                    m.layers.remove(m.layers.size() - 1);
                    return true;
            }
        }

        long layer(int k, int what) {
            if (noLayer(k)) return wide(-1);
            if (what < 0 || what > 7) return wide(-2);
            Layer l = now.layers.get(k);
            return new int[] {"lbowhtm".indexOf(l.letter()), l.sheaves, l.out, l.lean, l.weight(), l.binding(),
                l.thick(), now.loadOf(k)}[what];
        }

        long piece(int way, int p, int what) {
            if (noPiece(way, p)) return refuse(-1);
            if (what < 0 || what > 2) return refuse(-2);
            Slope s = now.ways.get(way).get(p);
            return new int[] {"sdjbrg".indexOf(s.letter()), s.figure, s.minutes}[what];
        }

        long off() {
            if (now.layers.isEmpty()) return refuse(-3);
            now.layers.remove(now.layers.size() - 1);
            return now.layers.size();
        }

        long out(int k, int v) {
            if (noLayer(k)) return refuse(-1);
            if (v < 0) return refuse(-4);
            if (v > 9) return refuse(-6);
            int was = now.layers.get(k).out;
            now.relay(k, v, now.layers.get(k).lean);
            return was;
        }

        long set(int what, int v) {
            if (what < 0 || what > 3) return refuse(-2);
            if (v < (what == 1 || what == 2 ? 1 : 0)) return refuse(-4);
            if (v > (what == 0 ? 5 : what == 3 ? 999 : 9)) return refuse(-6);
            int was = now.settings[what];
            now.settings[what] = v;
            return was;
        }

        long shift(int way, int p, int k) {
            if (noPiece(way, p) || noLayer(k)) return refuse(-1);
            return now.ways.get(way).get(p).shift(now, k);
        }

        long slips(int way, int what) {
            if (noWay(way)) return refuse(-1);
            if (what != 0 && what != 1) return refuse(-2);
            return now.holds(way) ? -9 : now.slip(way)[what];
        }

        long margin(int way) {
            if (noWay(way)) return wide(-1);
            return now.margin(way);
        }

        long high(int way) {
            if (noWay(way)) return refuse(-1);
            int most = 0;
            for (int n = 0; n <= now.layers.size(); n++) {
                Model m = now.copy();
                m.layers = new ArrayList<>(now.layers.subList(0, n));
                most = m.holds(way) ? n : most;
            }
            return most;
        }

        long more(int way) {
            if (noWay(way)) return refuse(-1);
            if (now.layers.isEmpty()) return refuse(-3);
            Model m = now.copy();
            m.layers.add(m.layers.get(m.layers.size() - 1));
            return m.holds(way) ? 1 : 0;
        }

        long farOut(int way, int k) {
            if (noWay(way) || noLayer(k)) return refuse(-1);
            int greatest = -9;
            for (int v = 0; v <= 9; v++) {
                Model m = now.copy();
                m.relay(k, v, m.layers.get(k).lean);
                greatest = m.holds(way) ? v : greatest;
            }
            return greatest;
        }

        long leaning(int way) {
            if (noWay(way)) return wide(-1);
            int best = 5;
            int bestMargin = Integer.MIN_VALUE;
            for (int a = 5; a >= -5; a--) {
                Model m = now.copy();
                for (int k = 0; k < m.layers.size(); k++) {
                    int lean = m.layers.get(k).lean + a;
                    m.relay(k, m.layers.get(k).out, lean > 5 ? 5 : lean < -5 ? -5 : lean);
                }
                if (m.margin(way) >= bestMargin) {
                    best = a;
                    bestMargin = m.margin(way);
                }
            }
            return best;
        }

        long enough(int way) {
            if (noWay(way)) return refuse(-1);
            int least = -9;
            for (int r = 5; r >= 0; r--) {
                Model m = now.copy();
                m.settings[0] = r;
                least = m.holds(way) ? r : least;
            }
            return least;
        }

        long home(int way) {
            if (noWay(way)) return refuse(-1);
            return now.home(way);
        }

        long which() {
            int a = now.home(0);
            int b = now.home(1);
            if (a < 0 && b < 0) return -9;
            if (a < 0) return 1;
            if (b < 0) return 0;
            return b < a ? 1 : 0;
        }

        long pitching(int pitch) {
            if (pitch < 1) return refuse(-4);
            if (pitch > 9) return refuse(-6);
            return now.pitching(pitch);
        }

        long quick(int way) {
            if (noWay(way)) return refuse(-1);
            int best = -9;
            for (int p = 9; p >= 1; p--) {
                Model m = now.copy();
                m.badPitch = p;
                if (m.holds(way) && (best < 0 || m.pitching(p) <= m.pitching(best))) {
                    best = p;
                }
            }
            return best;
        }

        private int roundsRefusal(int way, int n, int t, int most) {
            if (noWay(way)) return -1;
            if (n < 1 || t < 0) return -4;
            if (n > most || t > 999) return -6;
            return now.holds(way) && !now.layers.isEmpty() ? 0 : -3;
        }

        long rounds(int way, int n, int t) {
            int refusal = roundsRefusal(way, n, t, 4);
            return refusal != 0 ? refuse(refusal) : now.rounds(way, n, t);
        }

        long worth(int way, int n, int t) {
            int refusal = roundsRefusal(way, n, t, 3);
            return refusal != 0 ? wide(refusal) : now.rounds(way, n + 1, t) - now.rounds(way, n, t);
        }

        long thunder(int way, int t, int part) {
            if (noWay(way)) return LONG - refuse(-1);
            if (t < 0) return LONG - refuse(-4);
            if (t > 9) return LONG - refuse(-6);
            if (part != 0 && part != 1) return LONG - refuse(-2);
            int minutes = Math.min(12, now.minutes(way));
            BigInteger above = BigInteger.valueOf(10 - t).pow(minutes);
            BigInteger below = BigInteger.TEN.pow(minutes);
            return (part == 0 ? above : below).divide(above.gcd(below)).longValueExact();
        }

        long fell(int way, int p) {
            if (noPiece(way, p)) return refuse(-1);
            int bits = 0;
            for (int k = 0; k < now.layers.size(); k++) {
                bits += now.ways.get(way).get(p).lack(now, k) != null ? 1 << k : 0;
            }
            return bits;
        }

        long whose(int way, int p) {
            if (noPiece(way, p)) return refuse(-1);
            int least = -9;
            int leastLack = Integer.MAX_VALUE;
            for (int k = 0; k < now.layers.size(); k++) {
                Integer lack = now.ways.get(way).get(p).lack(now, k);
                if (lack != null && lack < leastLack) {
                    least = k;
                    leastLack = lack;
                }
            }
            return least;
        }

        long boundBy(int shift, int what) {
            if (shift < 0) return refuse(-4);
            if (shift > 999) return refuse(-6);
            if (what != 0 && what != 1) return refuse(-2);
            if (row.size() % 2 != 0) return refuse(-3);
            List<Integer> so = new ArrayList<>();
            for (int c = 0; c <= 20; c++) {
                boolean all = true;
                for (int i = 0; i < row.size(); i += 2) {
                    if (row.get(i + 1) > 1) return refuse(-3);
                    all &= (row.get(i) * c >= shift ? 1 : 0) == row.get(i + 1);
                }
                if (all) so.add(c);
            }
            return so.isEmpty() ? -9 : so.get(what == 0 ? 0 : so.size() - 1);
        }

        long row(int v) {
            if (v < 0) return refuse(-4);
            if (v > 99 || row.size() == 12) return refuse(-6);
            row.add(v);
            return row.size();
        }

        long judge(int way) {
            if (noWay(way)) return refuse(-1);
            List<Integer> told = new ArrayList<>(row);
            row.clear();
            for (int r = 0; r < told.size(); r++) {
                Model m = now.copy();
                m.settings[0] = r;
                if (told.get(r) != (m.holds(way) ? 99 : m.slip(way)[1])) {
                    return r;
                }
            }
            return -9;
        }

        long lots(int way, int n, int z) {
            if (noWay(way)) return refuse(-1);
            if (n < 1) return refuse(-4);
            if (n > 30) return refuse(-6);
            int[] seed = {z};
            int holding = 0;
            for (int i = 0; i < n; i++) {
                Model m = now.copy();
                for (int k = 0; k < m.layers.size(); k++) {
                    int out = draw(seed, 10);
                    m.relay(k, out, draw(seed, 11) - 5);
                }
                holding += m.holds(way) ? 1 : 0;
            }
            return holding;
        }

        private static int draw(int[] seed, int m) {
            seed[0] = (int) (seed[0] * 1664525L + 1013904223L);
            return (int) ((seed[0] < 0 ? seed[0] + (1L << 31) : seed[0]) / 256 % m);
        }

        long image() {
            image = now.copy();
            return now.layers.size();
        }

        long on() {
            if (image == null) return refuse(-3);
            now = image.copy();
            return now.layers.size();
        }

        long count(int what) {
            if (what >= 11 && what <= 16) return refusals[what - 10];
            if (what < 0 || what > 9) return -9;
            return new int[] {now.layers.size(), now.ways.get(0).size(), now.ways.get(1).size(), now.height(),
                now.width(), now.sum(Layer::weight), now.sum(l -> l.sheaves), now.settings[0], row.size(),
                letters.length()}[what];
        }
    }

    // ---- runs by lot

    private static final class Run {
        final Random random;
        final int number;
        final LoadedForTheLane x = new LoadedForTheLane();
        final Whole model = new Whole();
        final StringBuilder text = new StringBuilder();
        int calls = 0;

        Run(int number) {
            this.number = number;
            this.random = new Random(number);
        }

        void due(String call, long got, long want) {
            calls++;
            asked++;
            if (got != want) {
                wrong++;
                if (wrong < 20) {
                    System.out.println("run " + number + " call " + calls + ": " + call + " answered " + got
                        + ", the model's is " + want + "; letters: " + text);
                }
            }
        }

        int below(int n) { return random.nextInt(n); }

        /** Mostly 0 .. n - 1, now and then outside. */
        int about(int n) {
            int lot = below(40);
            if (lot == 0) return -1;
            if (lot == 1) return n;
            if (lot == 2) return below(2) == 0 ? Integer.MIN_VALUE : Integer.MAX_VALUE;
            return n < 1 ? 0 : below(n);
        }

        char of(String letters) { return letters.charAt(below(letters.length())); }

        String digits(int value) { return value / 10 + "" + value % 10; }

        String statement() {
            boolean odd = below(30) == 0;
            switch (below(10)) {
                case 0:
                case 1:
                case 2:
                case 3:
                    return "y" + of("lbowhtm") + digits(odd ? below(100) : 1 + below(20)) + below(10) + of("+-")
                        + below(odd ? 10 : 6) + ";";
                case 4:
                case 5:
                case 6:
                    return "w" + below(odd ? 10 : 2) + of("sdjbrg") + digits(odd ? below(100) : below(21))
                        + (odd ? below(10) : 1 + below(9)) + ";";
                case 7:
                    return "r" + below(odd ? 10 : 6) + ";";
                case 8:
                    return "k" + (1 + below(9)) + (odd ? below(10) : 1 + below(9)) + ";";
                default:
                    return below(3) == 0 ? "u;" : "f" + below(below(2) == 0 ? 1000 : 30) + ";";
            }
        }

        void tell() {
            StringBuilder told = new StringBuilder();
            int statements = 1 + below(8);
            for (int i = 0; i < statements; i++) {
                told.append(statement());
            }
            int oddity = below(12);
            if (oddity == 0) told.setCharAt(below(told.length()), of("ylbowhtm;+-0123456789rkfu sdjg"));
            if (oddity == 1) told.deleteCharAt(below(told.length()));
            if (oddity == 2) told.insert(below(told.length()), of("ylwrkfu;+-09"));
            if (oddity == 3) told.setLength(below(told.length()));
            text.append(told).append('|');
            for (int i = 0; i < told.length(); i++) {
                due("letter", x.letter(told.charAt(i)), model.letter(told.charAt(i)));
            }
            due("load", x.load(), model.load());
        }

        void row() {
            int n = below(8);
            for (int i = 0; i < n; i++) {
                int lot = below(6);
                int v = lot == 0 ? 99 : lot == 1 ? about(100) : lot == 2 ? below(20) : below(2);
                due("row " + v, x.row(v), model.row(v));
            }
        }

        /** The row as it would be told rightly, now and then with a number that is not so. */
        void rightRow(int way) {
            for (int r = 0; r < 1 + below(8) && way >= 0 && way < 2; r++) {
                Model m = model.now.copy();
                m.settings[0] = r;
                int v = below(20) == 0 ? below(12) : m.holds(way) ? 99 : m.slip(way)[1];
                due("row " + v, x.row(v), model.row(v));
            }
        }

        void call() {
            int way = about(2);
            int layer = about(model.now.layers.size());
            int piece = about(way == 0 || way == 1 ? model.now.ways.get(way).size() : 6);
            int n = about(5);
            int t = below(4) == 0 ? about(1000) : about(120);
            int what = about(2);
            switch (below(32)) {
                case 0: due("letter", x.letter(t), model.letter(t)); break;
                case 1: due("load", x.load(), model.load()); break;
                case 2: what = about(8); due("layer", x.layer(layer, what), model.layer(layer, what)); break;
                case 3: what = about(3); due("piece", x.piece(way, piece, what), model.piece(way, piece, what)); break;
                case 4: if (below(4) == 0) due("off", x.off(), model.off()); break;
                case 5: n = about(10); due("out", x.out(layer, n), model.out(layer, n)); break;
                case 6: what = about(4); n = what == 3 ? t : about(what == 0 ? 6 : 10);
                    due("set", x.set(what, n), model.set(what, n)); break;
                case 7: due("shift", x.shift(way, piece, layer), model.shift(way, piece, layer)); break;
                case 8: due("slips", x.slips(way, what), model.slips(way, what)); break;
                case 9: due("margin", x.margin(way), model.margin(way)); break;
                case 10: due("high", x.high(way), model.high(way)); break;
                case 11: due("more", x.more(way), model.more(way)); break;
                case 12: due("farOut", x.farOut(way, layer), model.farOut(way, layer)); break;
                case 13: due("leaning", x.leaning(way), model.leaning(way)); break;
                case 14: due("enough", x.enough(way), model.enough(way)); break;
                case 15: due("home", x.home(way), model.home(way)); break;
                case 16: due("which", x.which(), model.which()); break;
                case 17: n = about(10); due("pitching", x.pitching(n), model.pitching(n)); break;
                case 18: due("quick", x.quick(way), model.quick(way)); break;
                case 19:
                case 20: due("rounds", x.rounds(way, n, t), model.rounds(way, n, t)); break;
                case 21: due("worth", x.worth(way, n, t), model.worth(way, n, t)); break;
                case 22: n = about(10); due("thunder", x.thunder(way, n, what), model.thunder(way, n, what)); break;
                case 23: due("fell", x.fell(way, piece), model.fell(way, piece)); break;
                case 24: due("whose", x.whose(way, piece), model.whose(way, piece)); break;
                case 25: t = below(2) == 0 ? below(25) : t;
                    due("boundBy", x.boundBy(t, what), model.boundBy(t, what)); break;
                case 26: row(); break;
                case 27: if (below(2) == 0) rightRow(way); due("judge", x.judge(way), model.judge(way)); break;
                case 28: n = about(31); t = random.nextInt(); due("lots", x.lots(way, n, t), model.lots(way, n, t));
                    break;
                case 29: if (below(3) == 0) due("image", x.image(), model.image()); break;
                case 30: if (below(3) == 0) due("on", x.on(), model.on()); break;
                default: what = about(18); due("count " + what, x.count(what), model.count(what)); break;
            }
        }
    }

    private static void run(int number) {
        Run run = new Run(number);
        while (run.calls < 400) {
            if (run.below(12) == 0) {
                run.tell();
            } else {
                run.call();
            }
        }
        for (int what = -1; what <= 17; what++) {
            run.due("count " + what, run.x.count(what), run.model.count(what));
        }
    }
}
