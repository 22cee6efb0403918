/** A wagon of sheaves, loaded in layers, and its two ways home. */
public final class LoadedForTheLane {
    private static final int NOBODY = -1;
    private static final int OTHER = -2;
    private static final int STATE = -3;
    private static final int BELOW = -4;
    private static final int ROOM = -6;
    private static final int NONE = -9;

    private static final int FAULT_OF_FORM = -1000;
    private static final int FAULT_OF_SENSE = -2000;
    private static final int WIDE_REFUSAL = 1000000000;
    private static final long LONG_REFUSAL = 4000000000000000000L;

    private static final int MOST_LETTERS = 96;
    private static final int MOST_IN_ROW = 12;
    private static final int MOST_LAYERS = 11;
    private static final int MOST_PIECES = 6;
    private static final int MOST_OUT = 9;
    private static final int MOST_LEAN = 5;
    private static final int MOST_SHEAVES = 20;
    private static final int MOST_FIGURE = 20;
    private static final int MOST_WAGONS = 4;
    private static final int MOST_TIME = 999;
    private static final int MOST_SHIFT_TOLD = 999;
    private static final int MOST_TOLD = 99;
    private static final int MOST_LOTS = 30;
    // What a ROW tells, where a load holds.
    private static final int TOLD_TO_HOLD = 99;
    private static final int MOST_TENTHS = 9;
    private static final int MOST_THUNDER_MINUTES = 12;
    // What the first of several is better than, whichever it is.
    private static final int LEAST_NUMBER = -2147483648;
    private static final int GREATEST_NUMBER = 2147483647;

    private static final int ROPES = 0;
    private static final int SKILL = 1;
    private static final int PITCH = 2;
    private static final int FIELD = 3;
    private static final int[] LEAST_SETTING = {0, 1, 1, 0};
    private static final int[] MOST_SETTING = {5, 9, 9, 999};
    private static final int[] FIRST_SETTING = {0, 4, 3, 200};

    private final Wagon wagon = new Wagon();
    // What is asked "as if" is tried here, so that no call can leave the wagon itself changed.
    private final Wagon trial = new Wagon();
    private final Wagon imaged = new Wagon();
    private boolean hasImage = false;
    private final Letters letters = new Letters();
    private final Row told = new Row();
    private final int[] refusals = new int[7];

    public LoadedForTheLane() {
    }

    // ---- letters and what they become

    public int letter(int c) {
        if (c < 0) {
            return refuse(BELOW);
        }
        if (c > 255 || letters.size >= MOST_LETTERS) {
            return refuse(ROOM);
        }
        letters.add((char) c);
        return letters.size;
    }

    public int load() {
        int place = letters.firstOutOfForm();
        int answer = place >= 0 ? FAULT_OF_FORM - place : readStatements();
        letters.clear();
        return answer;
    }

    private int readStatements() {
        trial.become(wagon);
        int statements = 0;
        int start = 0;
        for (int place = 0; place < letters.size; place++) {
            if (letters.at(place) == ';') {
                if (!readStatement(start)) {
                    return FAULT_OF_SENSE - start;
                }
                statements++;
                start = place + 1;
            }
        }
        wagon.become(trial);
        return statements;
    }

    private boolean readStatement(int start) {
        switch (letters.at(start)) {
            case 'y':
                return readLayer(start);
            case 'w':
                return readPiece(start);
            case 'r':
                return trial.turn(ROPES, letters.digit(start + 1));
            case 'k':
                return trial.turn(SKILL, letters.digit(start + 1))
                    && trial.turn(PITCH, letters.digit(start + 2));
            case 'f':
                return trial.turn(FIELD, letters.number(start + 1, 3));
            case 'u':
                return trial.takeTop();
            default:
                return false;
        }
    }

    private boolean readLayer(int start) {
        int lean = letters.digit(start + 6);
        if (letters.at(start + 5) == '-') {
            lean = -lean;
        }
        return trial.layers < MOST_LAYERS
            && trial.lay(LayerKinds.of(letters.at(start + 1)), letters.number(start + 2, 2),
                letters.digit(start + 4), lean);
    }

    private boolean readPiece(int start) {
        int way = letters.digit(start + 1);
        return trial.hasWay(way)
            && trial.ways[way].add(PieceKinds.of(letters.at(start + 2)),
                letters.number(start + 3, 2), letters.digit(start + 5));
    }

    // ---- layers, pieces, settings

    public int layer(int layer, int what) {
        if (!wagon.hasLayer(layer)) {
            return refuseWide(NOBODY);
        }
        switch (what) {
            case 0:
                return wagon.kinds[layer];
            case 1:
                return wagon.sheaves[layer];
            case 2:
                return wagon.outs[layer];
            case 3:
                return wagon.leans[layer];
            case 4:
                return wagon.weightOf(layer);
            case 5:
                return wagon.bindings[layer];
            case 6:
                return LayerKinds.thickness(wagon.kinds[layer]);
            case 7:
                return wagon.loads[layer];
            default:
                return refuseWide(OTHER);
        }
    }

    public int piece(int way, int piece, int what) {
        if (!wagon.hasPiece(way, piece)) {
            return refuse(NOBODY);
        }
        switch (what) {
            case 0:
                return wagon.ways[way].kinds[piece];
            case 1:
                return wagon.ways[way].figures[piece];
            case 2:
                return wagon.ways[way].minutes[piece];
            default:
                return refuse(OTHER);
        }
    }

    public int off() {
        if (!wagon.takeTop()) {
            return refuse(STATE);
        }
        return wagon.layers;
    }

    public int out(int layer, int v) {
        if (!wagon.hasLayer(layer)) {
            return refuse(NOBODY);
        }
        if (v < 0) {
            return refuse(BELOW);
        }
        if (v > MOST_OUT) {
            return refuse(ROOM);
        }
        int was = wagon.outs[layer];
        wagon.outs[layer] = v;
        return was;
    }

    public int set(int what, int v) {
        if (what < ROPES || what > FIELD) {
            return refuse(OTHER);
        }
        if (v < LEAST_SETTING[what]) {
            return refuse(BELOW);
        }
        if (v > MOST_SETTING[what]) {
            return refuse(ROOM);
        }
        int was = wagon.settings[what];
        wagon.settings[what] = v;
        return was;
    }

    // ---- what holds

    public int shift(int way, int piece, int layer) {
        if (!wagon.hasPiece(way, piece) || !wagon.hasLayer(layer)) {
            return refuse(NOBODY);
        }
        return wagon.shiftOf(way, piece, layer);
    }

    public int slips(int way, int what) {
        if (!wagon.hasWay(way)) {
            return refuse(NOBODY);
        }
        if (what < 0 || what > 1) {
            return refuse(OTHER);
        }
        int piece = wagon.pieceOfSlip(way);
        if (piece < 0) {
            return NONE;
        }
        return what == 0 ? piece : wagon.layerOfSlip(way, piece);
    }

    public int margin(int way) {
        if (!wagon.hasWay(way)) {
            return refuseWide(NOBODY);
        }
        return wagon.leastMargin(way);
    }

    public int high(int way) {
        if (!wagon.hasWay(way)) {
            return refuse(NOBODY);
        }
        trial.become(wagon);
        for (int layers = wagon.layers; layers > 0; layers--) {
            if (trial.holds(way)) {
                return layers;
            }
            trial.takeTop();
        }
        return 0;
    }

    public int more(int way) {
        if (!wagon.hasWay(way)) {
            return refuse(NOBODY);
        }
        int top = wagon.layers - 1;
        if (!wagon.hasLayer(top)) {
            return refuse(STATE);
        }
        trial.become(wagon);
        trial.lay(wagon.kinds[top], wagon.sheaves[top], wagon.outs[top], wagon.leans[top]);
        return trial.holds(way) ? 1 : 0;
    }

    public int farOut(int way, int layer) {
        if (!wagon.hasWay(way) || !wagon.hasLayer(layer)) {
            return refuse(NOBODY);
        }
        trial.become(wagon);
        for (int v = MOST_OUT; v >= 0; v--) {
            trial.outs[layer] = v;
            if (trial.holds(way)) {
                return v;
            }
        }
        return NONE;
    }

    public int leaning(int way) {
        if (!wagon.hasWay(way)) {
            return refuseWide(NOBODY);
        }
        int best = -MOST_LEAN;
        int bestMargin = LEAST_NUMBER;
        for (int added = -MOST_LEAN; added <= MOST_LEAN; added++) {
            trial.become(wagon);
            trial.leanMore(added);
            int margin = trial.leastMargin(way);
            if (margin > bestMargin) {
                best = added;
                bestMargin = margin;
            }
        }
        return best;
    }

    public int enough(int way) {
        if (!wagon.hasWay(way)) {
            return refuse(NOBODY);
        }
        trial.become(wagon);
        for (int ropes = 0; ropes <= MOST_SETTING[ROPES]; ropes++) {
            trial.settings[ROPES] = ropes;
            if (trial.holds(way)) {
                return ropes;
            }
        }
        return NONE;
    }

    // ---- time

    public int home(int way) {
        if (!wagon.hasWay(way)) {
            return refuse(NOBODY);
        }
        return minutesHome(way);
    }

    private int minutesHome(int way) {
        return wagon.holds(way) ? wagon.ways[way].allMinutes() : NONE;
    }

    public int which() {
        int first = minutesHome(0);
        int second = minutesHome(1);
        if (first == NONE) {
            return second == NONE ? NONE : 1;
        }
        return second == NONE || first <= second ? 0 : 1;
    }

    public int pitching(int pitch) {
        if (pitch < LEAST_SETTING[PITCH]) {
            return refuse(BELOW);
        }
        if (pitch > MOST_SETTING[PITCH]) {
            return refuse(ROOM);
        }
        return wagon.pitchingMinutes(pitch);
    }

    public int quick(int way) {
        if (!wagon.hasWay(way)) {
            return refuse(NOBODY);
        }
        int best = NONE;
        int fewest = GREATEST_NUMBER;
        for (int pitch = LEAST_SETTING[PITCH]; pitch <= MOST_SETTING[PITCH]; pitch++) {
            trial.become(wagon);
            trial.layBadly(Math.max(0, pitch - wagon.settings[SKILL]));
            int minutes = wagon.pitchingMinutes(pitch);
            if (minutes < fewest && trial.holds(way)) {
                best = pitch;
                fewest = minutes;
            }
        }
        return best;
    }

    public int rounds(int way, int n, int t) {
        int refusal = refusalOfRounds(way, n, t, MOST_WAGONS);
        if (refusal != 0) {
            return refuse(refusal);
        }
        return wagon.sheavesHome(way, n, t);
    }

    public int worth(int way, int n, int t) {
        int refusal = refusalOfRounds(way, n, t, MOST_WAGONS - 1);
        if (refusal != 0) {
            return refuseWide(refusal);
        }
        return wagon.sheavesHome(way, n + 1, t) - wagon.sheavesHome(way, n, t);
    }

    private int refusalOfRounds(int way, int n, int t, int most) {
        if (!wagon.hasWay(way)) {
            return NOBODY;
        }
        if (n < 1 || t < 0) {
            return BELOW;
        }
        if (n > most || t > MOST_TIME) {
            return ROOM;
        }
        return wagon.layers == 0 || !wagon.holds(way) ? STATE : 0;
    }

    // ---- odds, and what is found out afterwards

    public long thunder(int way, int t, int part) {
        if (!wagon.hasWay(way)) {
            return refuseLong(NOBODY);
        }
        if (t < 0) {
            return refuseLong(BELOW);
        }
        if (t > MOST_TENTHS) {
            return refuseLong(ROOM);
        }
        if (part < 0 || part > 1) {
            return refuseLong(OTHER);
        }
        int minutes = Math.min(MOST_THUNDER_MINUTES, wagon.ways[way].allMinutes());
        // A power of a fraction in least terms is in least terms, too.
        int common = commonDivisor(10 - t);
        return power((part == 0 ? 10 - t : 10) / common, minutes);
    }

    /** The greatest number that divides both 10 and the quiet tenths (1 .. 10). */
    private static int commonDivisor(int quiet) {
        for (int divisor = 10; divisor > 1; divisor--) {
            if (10 % divisor == 0 && quiet % divisor == 0) {
                return divisor;
            }
        }
        return 1;
    }

    private static long power(int base, int exponent) {
        long product = 1;
        for (int i = 0; i < exponent; i++) {
            product *= base;
        }
        return product;
    }

    public int fell(int way, int piece) {
        if (!wagon.hasPiece(way, piece)) {
            return refuse(NOBODY);
        }
        int bits = 0;
        for (int layer = 0; layer < wagon.layers; layer++) {
            if (wagon.slipsAt(way, piece, layer)) {
                bits |= 1 << layer;
            }
        }
        return bits;
    }

    public int whose(int way, int piece) {
        if (!wagon.hasPiece(way, piece)) {
            return refuse(NOBODY);
        }
        int least = NONE;
        int leastLack = GREATEST_NUMBER;
        for (int layer = 0; layer < wagon.layers; layer++) {
            int lack = wagon.shiftOf(way, piece, layer) - wagon.strengthOf(layer);
            if (wagon.slipsAt(way, piece, layer) && lack < leastLack) {
                least = layer;
                leastLack = lack;
            }
        }
        return least;
    }

    public int boundBy(int shift, int what) {
        if (shift < 0) {
            return refuse(BELOW);
        }
        if (shift > MOST_SHIFT_TOLD) {
            return refuse(ROOM);
        }
        if (what < 0 || what > 1) {
            return refuse(OTHER);
        }
        if (!told.isOfTrials()) {
            return refuse(STATE);
        }
        return what == 0 ? told.leastBinding(shift) : told.greatestBinding(shift);
    }

    public int row(int v) {
        if (v < 0) {
            return refuse(BELOW);
        }
        if (v > MOST_TOLD || told.size >= MOST_IN_ROW) {
            return refuse(ROOM);
        }
        told.add(v);
        return told.size;
    }

    public int judge(int way) {
        if (!wagon.hasWay(way)) {
            return refuse(NOBODY);
        }
        trial.become(wagon);
        int wrong = NONE;
        for (int ropes = 0; ropes < told.size && wrong == NONE; ropes++) {
            trial.settings[ROPES] = ropes;
            if (told.numbers[ropes] != slipAsTold(way)) {
                wrong = ropes;
            }
        }
        told.clear();
        return wrong;
    }

    /** The layer at which the trial slips, as a ROW tells it: 99 if it holds. */
    private int slipAsTold(int way) {
        int piece = trial.pieceOfSlip(way);
        return piece < 0 ? TOLD_TO_HOLD : trial.layerOfSlip(way, piece);
    }

    public int lots(int way, int n, int z) {
        if (!wagon.hasWay(way)) {
            return refuse(NOBODY);
        }
        if (n < 1) {
            return refuse(BELOW);
        }
        if (n > MOST_LOTS) {
            return refuse(ROOM);
        }
        trial.become(wagon);
        int seed = z;
        int holding = 0;
        for (int i = 0; i < n; i++) {
            seed = trial.layByLot(seed);
            if (trial.holds(way)) {
                holding++;
            }
        }
        return holding;
    }

    // ---- the image, and counts

    public int image() {
        imaged.become(wagon);
        hasImage = true;
        return wagon.layers;
    }

    public int on() {
        if (!hasImage) {
            return refuse(STATE);
        }
        wagon.become(imaged);
        return wagon.layers;
    }

    public int count(int what) {
        switch (what) {
            case 0:
                return wagon.layers;
            case 1:
                return wagon.ways[0].pieces;
            case 2:
                return wagon.ways[1].pieces;
            case 3:
                return wagon.height();
            case 4:
                return wagon.width();
            case 5:
                return wagon.allWeight();
            case 6:
                return wagon.allSheaves();
            case 7:
                return wagon.settings[ROPES];
            case 8:
                return told.size;
            case 9:
                return letters.size;
            default:
                return what >= 11 && what <= 16 ? refusals[what - 10] : NONE;
        }
    }

    // ---- refusals

    private int refuse(int number) {
        int place = -number;
        if (place > 0 && place < refusals.length) {
            refusals[place]++;
        }
        return number;
    }

    private int refuseWide(int number) {
        return WIDE_REFUSAL - refuse(number);
    }

    private long refuseLong(int number) {
        return LONG_REFUSAL - refuse(number);
    }

    /** The letters that have come and are no load yet. */
    private static final class Letters {
        private static final char A_LAYER = 'L';
        private static final char A_PIECE = 'P';
        private static final char A_DIGIT = '0';
        private static final char A_DIGIT_OR_NONE = '?';
        private static final char A_SIGN = '+';

        private final char[] signs = new char[MOST_LETTERS];
        private int size = 0;

        private void add(char sign) {
            if (size < signs.length) {
                signs[size] = sign;
                size++;
            }
        }

        private void clear() {
            size = 0;
        }

        private char at(int place) {
            return place >= 0 && place < size ? signs[place] : 0;
        }

        private int digit(int place) {
            return isDigit(at(place)) ? at(place) - '0' : 0;
        }

        /** The number of at most so many digits that begins at a place. */
        private int number(int place, int most) {
            int number = 0;
            for (int i = 0; i < most && isDigit(at(place + i)); i++) {
                number = number * 10 + digit(place + i);
            }
            return number;
        }

        /** The first place with which no LOAD can go on, or -1. */
        private int firstOutOfForm() {
            if (size == 0) {
                return 0;
            }
            String form = "";
            int step = 0;
            for (int place = 0; place < size; place++) {
                if (step >= form.length()) {
                    form = formBehind(at(place));
                    step = form.isEmpty() ? -1 : 0;
                } else {
                    step = stepBehind(form, step, at(place));
                }
                if (step < 0) {
                    return place;
                }
            }
            return step < form.length() ? size : -1;
        }

        /** What a STATEMENT asks behind its first letter; nothing, if none begins so. */
        private static String formBehind(char head) {
            switch (head) {
                case 'y':
                    return "L000+0;";
                case 'w':
                    return "0P000;";
                case 'r':
                    return "0;";
                case 'k':
                    return "00;";
                case 'f':
                    return "0??;";
                case 'u':
                    return ";";
                default:
                    return "";
            }
        }

        /** The step of a form that comes behind a letter, or -1 if the letter has no place there. */
        private static int stepBehind(String form, int step, char sign) {
            for (int s = step; s < form.length(); s++) {
                char asked = form.charAt(s);
                if (fits(asked, sign)) {
                    return s + 1;
                }
                if (asked != A_DIGIT_OR_NONE) {
                    return -1;
                }
            }
            return -1;
        }

        private static boolean fits(char asked, char sign) {
            switch (asked) {
                case A_LAYER:
                    return LayerKinds.of(sign) >= 0;
                case A_PIECE:
                    return PieceKinds.of(sign) >= 0;
                case A_DIGIT:
                case A_DIGIT_OR_NONE:
                    return isDigit(sign);
                case A_SIGN:
                    return sign == '+' || sign == '-';
                default:
                    return sign == asked;
            }
        }

        private static boolean isDigit(char sign) {
            return sign >= '0' && sign <= '9';
        }
    }

    /** The numbers told for boundBy and judge. */
    private static final class Row {
        private static final int MOST_BINDING = 20;

        private final int[] numbers = new int[MOST_IN_ROW];
        private int size = 0;

        private void add(int number) {
            if (size < numbers.length) {
                numbers[size] = number;
                size++;
            }
        }

        private void clear() {
            size = 0;
        }

        /** Whether it is told by twos: SHEAVES, and 1 or 0. */
        private boolean isOfTrials() {
            for (int i = 1; i < size; i += 2) {
                if (numbers[i] > 1) {
                    return false;
                }
            }
            return size % 2 == 0;
        }

        private int leastBinding(int shift) {
            for (int binding = 0; binding <= MOST_BINDING; binding++) {
                if (allSo(binding, shift)) {
                    return binding;
                }
            }
            return NONE;
        }

        private int greatestBinding(int shift) {
            for (int binding = MOST_BINDING; binding >= 0; binding--) {
                if (allSo(binding, shift)) {
                    return binding;
                }
            }
            return NONE;
        }

        private boolean allSo(int binding, int shift) {
            for (int i = 1; i < size; i += 2) {
                boolean held = numbers[i - 1] * binding >= shift;
                if (held != (numbers[i] == 1)) {
                    return false;
                }
            }
            return true;
        }
    }

    /** What the KINDS of LAYERS weigh and bind. */
    private static final class LayerKinds {
        // The plain kind, a LAYER, is 0: what every other kind changes from.
        private static final int BOUND = 1;
        private static final int LOOSE = 2;
        private static final int WET = 3;
        private static final int HURRIED = 4;
        private static final int TOP = 5;
        private static final int MATTED = 6;
        private static final String SIGNS = "lbowhtm";

        private static int of(char sign) {
            return SIGNS.indexOf(sign);
        }

        private static int weight(int kind, int sheaves) {
            switch (kind) {
                case WET:
                case MATTED:
                    return 14 * sheaves;
                case TOP:
                    return 10 * sheaves + 60;
                default:
                    return 10 * sheaves;
            }
        }

        private static int binding(int kind, int sheaves) {
            switch (kind) {
                case BOUND:
                case TOP:
                    return 8 * sheaves;
                case MATTED:
                    return 7 * sheaves;
                case LOOSE:
                    return 5 * sheaves / 2;
                case HURRIED:
                    return Math.max(0, 5 * sheaves / 2 - 10);
                default:
                    return 5 * sheaves;
            }
        }

        private static int thickness(int kind) {
            switch (kind) {
                case LOOSE:
                case HURRIED:
                    return 11;
                case WET:
                case MATTED:
                    return 8;
                default:
                    return 9;
            }
        }
    }

    /** The KINDS of PIECES. */
    private static final class PieceKinds {
        private static final int SLOPE = 0;
        private static final int DIP = 1;
        private static final int JERK = 2;
        private static final int BEND = 3;
        private static final int BRANCH = 4;
        private static final int GATE = 5;
        private static final String SIGNS = "sdjbrg";

        private static int of(char sign) {
            return SIGNS.indexOf(sign);
        }
    }

    /** One way home, piece by piece. */
    private static final class Way {
        private final int[] kinds = new int[MOST_PIECES];
        private final int[] figures = new int[MOST_PIECES];
        private final int[] minutes = new int[MOST_PIECES];
        private int pieces = 0;

        private void become(Way other) {
            System.arraycopy(other.kinds, 0, kinds, 0, MOST_PIECES);
            System.arraycopy(other.figures, 0, figures, 0, MOST_PIECES);
            System.arraycopy(other.minutes, 0, minutes, 0, MOST_PIECES);
            pieces = other.pieces;
        }

        private boolean add(int kind, int figure, int itsMinutes) {
            if (pieces >= MOST_PIECES || figure > MOST_FIGURE || itsMinutes < 1) {
                return false;
            }
            kinds[pieces] = kind;
            figures[pieces] = figure;
            minutes[pieces] = itsMinutes;
            pieces++;
            return true;
        }

        private int allMinutes() {
            int sum = 0;
            for (int piece = 0; piece < pieces; piece++) {
                sum += minutes[piece];
            }
            return sum;
        }
    }

    /** A loaded wagon with its settings and its ways: all that an image holds. */
    private static final class Wagon {
        // "One layer more" is tried on a full wagon, too.
        private static final int ROOM_FOR_LAYERS = MOST_LAYERS + 1;
        private static final int MARGIN_OF_NONE = 9999;
        private static final int ALL_BUT_THE_SIGN = 2147483647;

        private final int[] kinds = new int[ROOM_FOR_LAYERS];
        private final int[] sheaves = new int[ROOM_FOR_LAYERS];
        private final int[] outs = new int[ROOM_FOR_LAYERS];
        private final int[] leans = new int[ROOM_FOR_LAYERS];
        private final int[] bindings = new int[ROOM_FOR_LAYERS];
        private final int[] loads = new int[ROOM_FOR_LAYERS];
        private int layers = 0;
        private final int[] settings = FIRST_SETTING.clone();
        private final Way[] ways = {new Way(), new Way()};
        private final int[] backAt = new int[MOST_WAGONS];

        private void become(Wagon other) {
            System.arraycopy(other.kinds, 0, kinds, 0, ROOM_FOR_LAYERS);
            System.arraycopy(other.sheaves, 0, sheaves, 0, ROOM_FOR_LAYERS);
            System.arraycopy(other.outs, 0, outs, 0, ROOM_FOR_LAYERS);
            System.arraycopy(other.leans, 0, leans, 0, ROOM_FOR_LAYERS);
            System.arraycopy(other.bindings, 0, bindings, 0, ROOM_FOR_LAYERS);
            System.arraycopy(other.loads, 0, loads, 0, ROOM_FOR_LAYERS);
            layers = other.layers;
            System.arraycopy(other.settings, 0, settings, 0, settings.length);
            ways[0].become(other.ways[0]);
            ways[1].become(other.ways[1]);
        }

        // ---- what is there

        private boolean hasLayer(int layer) {
            return layer >= 0 && layer < layers;
        }

        private boolean hasWay(int way) {
            return way >= 0 && way < ways.length;
        }

        private boolean hasPiece(int way, int piece) {
            return hasWay(way) && piece >= 0 && piece < ways[way].pieces;
        }

        // ---- what changes

        private boolean turn(int what, int v) {
            if (v < LEAST_SETTING[what] || v > MOST_SETTING[what]) {
                return false;
            }
            settings[what] = v;
            return true;
        }

        private boolean lay(int kind, int itsSheaves, int out, int lean) {
            if (layers >= ROOM_FOR_LAYERS || itsSheaves < 1 || itsSheaves > MOST_SHEAVES
                || Math.abs(lean) > MOST_LEAN) {
                return false;
            }
            kinds[layers] = kind;
            sheaves[layers] = itsSheaves;
            outs[layers] = out;
            leans[layers] = lean;
            bindings[layers] = LayerKinds.binding(kind, itsSheaves);
            loads[layers] = 0;
            layers++;
            bear(weightOf(layers - 1));
            return true;
        }

        private boolean takeTop() {
            if (layers == 0) {
                return false;
            }
            bear(-weightOf(layers - 1));
            layers--;
            return true;
        }

        /** Each layer bears so much more: the top one has come or goes. */
        private void bear(int weight) {
            for (int layer = 0; layer < layers; layer++) {
                loads[layer] += weight;
            }
        }

        private void leanMore(int added) {
            for (int layer = 0; layer < layers; layer++) {
                leans[layer] = Math.max(-MOST_LEAN, Math.min(MOST_LEAN, leans[layer] + added));
            }
        }

        /** A PITCH so much above SKILL: sheaves that lie badly bind less. */
        private void layBadly(int pitchOverSkill) {
            for (int layer = 0; layer < layers; layer++) {
                int lyingBadly = sheaves[layer] * pitchOverSkill / 9;
                bindings[layer] = Math.max(0, bindings[layer] - 4 * lyingBadly);
            }
        }

        /** Every OUT and LEAN by lot; the seed behind the last draw. */
        private int layByLot(int seed) {
            int drawn = seed;
            for (int layer = 0; layer < layers; layer++) {
                drawn = nextSeed(drawn);
                outs[layer] = draw(drawn, 10);
                drawn = nextSeed(drawn);
                leans[layer] = draw(drawn, 11) - MOST_LEAN;
            }
            return drawn;
        }

        private static int nextSeed(int seed) {
            return seed * 1664525 + 1013904223;
        }

        private static int draw(int seed, int below) {
            return below < 1 ? 0 : (seed & ALL_BUT_THE_SIGN) / 256 % below;
        }

        // ---- how high, how wide, how heavy

        private int weightOf(int layer) {
            return LayerKinds.weight(kinds[layer], sheaves[layer]);
        }

        /** The greatest SHIFT that a layer holds. */
        private int strengthOf(int layer) {
            return bindings[layer] + 15 * settings[ROPES];
        }

        private int height() {
            int sum = 0;
            for (int layer = 0; layer < layers; layer++) {
                sum += LayerKinds.thickness(kinds[layer]);
            }
            return sum;
        }

        private int width() {
            int widest = layerFarthestOut();
            return widest < 0 ? 96 : 96 + 2 * outs[widest];
        }

        /** The least layer with the greatest OUT, or -1. */
        private int layerFarthestOut() {
            int farthest = -1;
            for (int layer = 0; layer < layers; layer++) {
                if (farthest < 0 || outs[layer] > outs[farthest]) {
                    farthest = layer;
                }
            }
            return farthest;
        }

        private int allWeight() {
            return layers == 0 ? 0 : loads[0];
        }

        private int allSheaves() {
            int sum = 0;
            for (int layer = 0; layer < layers; layer++) {
                sum += sheaves[layer];
            }
            return sum;
        }

        // ---- what slips

        private int shiftOf(int way, int piece, int layer) {
            int figure = ways[way].figures[piece];
            int load = loads[layer];
            switch (ways[way].kinds[piece]) {
                case PieceKinds.SLOPE:
                    return load * Math.abs(figure - 10 + leans[layer]) / 40;
                case PieceKinds.DIP:
                    return load * figure / 60;
                case PieceKinds.JERK:
                    // A dip's SHIFT is cut before it is taken times.
                    return (load * figure / 60) * (layer + 1) / 3;
                case PieceKinds.BEND:
                    return load * (figure + outs[layer]) / 50;
                default:
                    return 0;
            }
        }

        private boolean slipsAt(int way, int piece, int layer) {
            int figure = ways[way].figures[piece];
            switch (ways[way].kinds[piece]) {
                case PieceKinds.BRANCH:
                    return layer == layers - 1 && height() > 40 + 4 * figure;
                case PieceKinds.GATE:
                    return layer == layerFarthestOut() && width() > 90 + figure;
                default:
                    return shiftOf(way, piece, layer) > strengthOf(layer);
            }
        }

        /** The least layer that a piece makes slip, or -1. */
        private int layerOfSlip(int way, int piece) {
            for (int layer = 0; layer < layers; layer++) {
                if (slipsAt(way, piece, layer)) {
                    return layer;
                }
            }
            return -1;
        }

        /** The first piece at which a layer slips, or -1. */
        private int pieceOfSlip(int way) {
            for (int piece = 0; piece < ways[way].pieces; piece++) {
                if (layerOfSlip(way, piece) >= 0) {
                    return piece;
                }
            }
            return -1;
        }

        private boolean holds(int way) {
            return pieceOfSlip(way) < 0;
        }

        private int leastMargin(int way) {
            int least = MARGIN_OF_NONE;
            for (int piece = 0; piece < ways[way].pieces; piece++) {
                if (ways[way].kinds[piece] < PieceKinds.BRANCH) {
                    least = Math.min(least, marginAt(way, piece));
                }
            }
            return least;
        }

        private int marginAt(int way, int piece) {
            int least = MARGIN_OF_NONE;
            for (int layer = 0; layer < layers; layer++) {
                least = Math.min(least, strengthOf(layer) - shiftOf(way, piece, layer));
            }
            return least;
        }

        // ---- pitching and rounds

        private int pitchingMinutes(int pitch) {
            return pitch < 1 ? 0 : (allSheaves() + pitch - 1) / pitch;
        }

        /** What so many wagons bring home in a time, no more than the field has. */
        private int sheavesHome(int way, int wagons, int time) {
            int pitching = pitchingMinutes(settings[PITCH]);
            int going = ways[way].allMinutes();
            for (int i = 0; i < backAt.length; i++) {
                backAt[i] = 0;
            }
            int pitcherFreeAt = 0;
            int loadsHome = 0;
            // Each round takes the pitcher a minute at least, so there are no more of them than minutes.
            for (int round = 0; round < time; round++) {
                int next = firstBack(wagons);
                int loadedAt = Math.max(pitcherFreeAt, backAt[next]) + pitching;
                int unloadedAt = loadedAt + going + pitching;
                if (unloadedAt > time) {
                    break;
                }
                loadsHome++;
                pitcherFreeAt = loadedAt;
                backAt[next] = unloadedAt + going;
            }
            return Math.min(settings[FIELD], loadsHome * allSheaves());
        }

        /** The wagon that is there first, of several the least. */
        private int firstBack(int wagons) {
            int first = 0;
            for (int i = 1; i < wagons && i < backAt.length; i++) {
                if (backAt[i] < backAt[first]) {
                    first = i;
                }
            }
            return first;
        }
    }
}
