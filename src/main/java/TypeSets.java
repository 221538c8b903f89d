import java.util.Arrays;

/** Types as sets of values, told by equations; ../shared/DOC.md says what each call promises. */
public final class TypeSets {
    public static final int NONE = -1000000, BAD = -1000001, STATE = -1000002, FULL = -1000003;

    private static final int FOUND = -1000010, FAULT_AT = -1000100;
    private static final int NULL = 1, PLACE = 2, KIND = 3, SIZE = 4, STORE = 5;

    private static final int SPAN = 0, PAIRS = 1, FUNCTIONS = 2, UNION = 3, BOTH = 4, LESS = 5;
    private static final int SORTS = 6;
    private static final int MOST_TYPES = 8, MOST_CONSTANTS = 4, GREATEST_CONSTANT = 3;
    /** How many sets of types there are: each is the index of some row. */
    private static final int SETS = 256;
    private static final int HEIGHTS = 4;

    private static final int IMAGES = 2, MOST_DRAWS = 20, GREATEST_SEED = 999999;
    private static final long DRAW_FACTOR = 16807, DRAW_DIVISOR = 2147483647;

    private final Rows rows = new Rows();
    private final Tape tape = new Tape();
    private final House live = new House();
    private final House trial = new House();
    private final House firstImage = new House();
    private final House secondImage = new House();
    private final Acts acts = new Acts();
    private final Cells liveCells = new Cells();
    private final Cells trialCells = new Cells();
    private final PlainValues plainValues = new PlainValues();
    private final Asks asks = new Asks();
    private boolean cellsStand;
    private boolean plainStands;
    private int latestFinding;

    public TypeSets() {
    }

    // ---- rows

    public int row(int row, int lane, int n) {
        if (!Rows.isNumber(row) || !Rows.isLane(lane) || n > Rows.MOST_ITEMS) {
            return BAD;
        }
        latestFinding = n < 0 ? SIZE : 0;
        if (latestFinding != 0) {
            return FOUND - latestFinding;
        }
        rows.make(row, lane, n);
        return n;
    }

    public int set(int row, int i, int v) {
        if (!Rows.isNumber(row)) {
            return BAD;
        }
        latestFinding = rows.findingAt(row, i, 1);
        return latestFinding != 0 ? FOUND - latestFinding : rows.put(row, i, v);
    }

    public int copy(int a, int i, int b, int j, int n) {
        if (!Rows.isNumber(a) || !Rows.isNumber(b)) {
            return BAD;
        }
        latestFinding = rows.findingOfMove(a, i, b, j, n);
        if (latestFinding != 0) {
            return FOUND - latestFinding;
        }
        rows.move(a, i, b, j, n);
        return n;
    }

    public int drop(int row) {
        if (!Rows.isNumber(row)) {
            return BAD;
        }
        latestFinding = rows.findingAt(row, 0, 0);
        return latestFinding != 0 ? FOUND - latestFinding : rows.lose(row);
    }

    // ---- what is told

    public int feed(int letter) {
        if (letter < 0 || letter > 255) {
            return BAD;
        }
        return tape.add(letter) ? tape.length : FULL;
    }

    public int house() {
        boolean isRead = tape.read(trial);
        tape.length = 0;
        if (!isRead) {
            return FAULT_AT - tape.place;
        }
        standIn(trial);
        return live.types;
    }

    public int fault() {
        return tape.latestFault;
    }

    public int undo() {
        if (acts.kept == 0) {
            return STATE;
        }
        acts.takeBack(live);
        forgetWhatStood();
        return acts.kept;
    }

    // ---- what is done

    public int anew(int type, int sort, int a, int b) {
        if (!live.mayStand(type, sort, a, b)) {
            return BAD;
        }
        int before = live.sorts[type];
        acts.keep(live, type);
        live.tell(type, sort, a, b);
        forgetWhatStood();
        return before;
    }

    public int type(int type, int what) {
        if (!live.has(type)) {
            return BAD;
        }
        switch (what) {
            case 0: return live.sorts[type];
            case 1: return live.firsts[type];
            case 2: return live.seconds[type];
            default: return BAD;
        }
    }

    // ---- what lies in what

    public int lowest(int p, int n) {
        if (live.isNone()) {
            return STATE;
        }
        if (!live.isSet(p) || !live.isSet(n)) {
            return BAD;
        }
        return cellsNow().leastHeight(p, n);
    }

    public int lies(int a, int b) {
        if (!live.has(a) || !live.has(b)) {
            return BAD;
        }
        return cellsNow().supers[a] >> b & 1;
    }

    public int others(int type, int what) {
        if (!live.has(type)) {
            return BAD;
        }
        switch (what) {
            case 0: return cellsNow().supers[type];
            case 1: return cellsNow().supers[type] & cellsNow().lyingIn(type);
            case 2: return live.all() & ~cellsNow().meets[type];
            default: return BAD;
        }
    }

    public int empties() {
        return live.isNone() ? STATE : cellsNow().withoutValue();
    }

    public int cellAt(int k) {
        if (live.isNone()) {
            return STATE;
        }
        if (k < -1) {
            return BAD;
        }
        return k == -1 ? cellsNow().found.size : cellsNow().inOrder(k);
    }

    public int answers(int f, int a) {
        return live.has(f) && live.has(a) ? cellsNow().holdingAnswers(f, a) : BAD;
    }

    public int askable(int f) {
        return live.has(f) ? cellsNow().alwaysAnswered(f) : BAD;
    }

    public int ends(int type, int side) {
        if (!live.has(type) || side < 0 || side > 1) {
            return BAD;
        }
        return cellsNow().holdingSide(type, side);
    }

    public int plain(int type, int h) {
        if (!live.has(type) || h < 1 || h > HEIGHTS) {
            return BAD;
        }
        return plainNow().howMany(type, h);
    }

    public int pick(int type, int h, int what) {
        if (!live.has(type) || h < 1 || h > HEIGHTS || what < 0 || what > 1) {
            return BAD;
        }
        int above = plainNow().howMany(type, h);
        int below = plainNow().ofAny(h);
        int divisor = greatestDivisor(above, below);
        if (divisor < 1) {
            return BAD;
        }
        return (what == 0 ? above : below) / divisor;
    }

    public int who(int type, int which, int row, int i, int n) {
        if (!live.has(type) || which < 0 || which > 2 || !Rows.isNumber(row) || n < 1 || n > live.types) {
            return BAD;
        }
        latestFinding = rows.findingAt(row, i, n);
        if (latestFinding != 0) {
            return FOUND - latestFinding;
        }
        int wanted = rows.bits(row, i, n);
        int tries = which == 0 ? SORTS : MOST_TYPES;
        int fitting = 0;
        for (int v = 0; v < tries; v++) {
            if (fits(type, which, v, wanted, n)) {
                fitting |= 1 << v;
            }
        }
        return fitting;
    }

    public int drawn(int n, int seed, int what) {
        if (live.isNone()) {
            return STATE;
        }
        if (n < 0 || n > MOST_DRAWS || seed < 1 || seed > GREATEST_SEED || what < 0 || what > 1) {
            return BAD;
        }
        trial.takeFrom(live);
        long x = seed;
        for (int k = 0; k < n; k++) {
            x = x * DRAW_FACTOR % DRAW_DIVISOR;
            drawEquation(x);
        }
        trialCells.measure(trial);
        return what == 0 ? trial.types - Integer.bitCount(trialCells.withoutValue()) : trialCells.found.size;
    }

    public int image(int k) {
        if (k < 0 || k >= IMAGES) {
            return BAD;
        }
        if (live.isNone()) {
            return STATE;
        }
        imageOf(k).takeFrom(live);
        return 1;
    }

    public int restore(int k) {
        if (k < 0 || k >= IMAGES) {
            return BAD;
        }
        if (imageOf(k).isNone()) {
            return STATE;
        }
        standIn(imageOf(k));
        return 1;
    }

    // ---- asked

    public int kind(int one) {
        return live.has(one) ? Asks.kindOf(live.sorts[one]) : BAD;
    }

    public int as(int one, int kind) {
        if (!live.has(one) || kind < 0 || kind > Asks.LAST_KIND) {
            return BAD;
        }
        latestFinding = Asks.isOne(Asks.kindOf(live.sorts[one]), kind) ? 0 : KIND;
        return latestFinding != 0 ? FOUND - latestFinding : one;
    }

    public int ask(int one, int what) {
        if (!live.has(one) || what < 0 || what > 1) {
            return BAD;
        }
        asks.begin(live, one);
        return what == 0 ? asks.sizeOfOne() : asks.markOfOne();
    }

    public int trace(int i) {
        return i < 0 || i >= asks.left ? NONE : asks.numbers[i];
    }

    public int count(int what) {
        switch (what) {
            case 0: return rows.present();
            case 1: return live.types;
            case 2: return live.constants;
            case 3: return Integer.bitCount(cellsNow().withoutValue());
            case 4: return acts.kept;
            case 5: return tape.length;
            default: return BAD;
        }
    }

    public int status() {
        return latestFinding;
    }

    // ---- what the calls share

    private void standIn(House other) {
        live.takeFrom(other);
        acts.kept = 0;
        forgetWhatStood();
    }

    private void forgetWhatStood() {
        cellsStand = false;
        plainStands = false;
    }

    private Cells cellsNow() {
        if (!cellsStand) {
            liveCells.measure(live);
            cellsStand = true;
        }
        return liveCells;
    }

    private PlainValues plainNow() {
        if (!plainStands) {
            plainValues.measure(live);
            plainStands = true;
        }
        return plainValues;
    }

    private House imageOf(int k) {
        return k == 0 ? firstImage : secondImage;
    }

    private boolean fits(int type, int which, int v, int wanted, int n) {
        int sort = which == 0 ? v : live.sorts[type];
        int a = which == 1 ? v : live.firsts[type];
        int b = which == 2 ? v : live.seconds[type];
        if (!live.mayStand(type, sort, a, b)) {
            return false;
        }
        trial.takeFrom(live);
        trial.tell(type, sort, a, b);
        trialCells.measure(trial);
        return (trialCells.lyingIn(type) & (1 << n) - 1) == wanted;
    }

    private void drawEquation(long x) {
        if (trial.types < 1) {
            return;
        }
        int type = (int) (x % trial.types);
        int sort = (int) (x / 8 % SORTS);
        int a = (int) (x / 64 % 8);
        int b = (int) (x / 512 % 8);
        if (trial.mayStand(type, sort, a, b)) {
            trial.tell(type, sort, a, b);
        }
    }

    private static int greatestDivisor(int a, int b) {
        int one = a;
        int other = b;
        // each two rounds halve the number at least, so 64 are enough for any int
        for (int round = 0; round < 64 && other != 0; round++) {
            int rest = one % other;
            one = other;
            other = rest;
        }
        return one;
    }

    /** The ROWS: all items stand in one array, narrowed to their lane, so that no call makes a new one. */
    private static final class Rows {
        static final int ROWS = 8, MOST_ITEMS = 40, MISSING = -1;

        private final int[] lanes = new int[ROWS];
        private final int[] lengths = new int[ROWS];
        private final int[] items = new int[ROWS * MOST_ITEMS];

        Rows() {
            Arrays.fill(lanes, MISSING);
        }

        static boolean isNumber(int row) {
            return row >= 0 && row < ROWS;
        }

        static boolean isLane(int lane) {
            return lane >= 0 && lane <= 2;
        }

        void make(int row, int lane, int n) {
            lanes[row] = lane;
            lengths[row] = n;
            for (int i = 0; i < n; i++) {
                items[row * MOST_ITEMS + i] = 0;
            }
        }

        int put(int row, int i, int v) {
            int lane = lanes[row];
            int kept = lane == 0 ? (byte) v : lane == 1 ? (short) v : v;
            items[row * MOST_ITEMS + i] = kept;
            return kept;
        }

        void move(int a, int i, int b, int j, int n) {
            System.arraycopy(items, a * MOST_ITEMS + i, items, b * MOST_ITEMS + j, n);
        }

        int lose(int row) {
            lanes[row] = MISSING;
            return lengths[row];
        }

        int present() {
            int n = 0;
            for (int row = 0; row < ROWS; row++) {
                n += lanes[row] != MISSING ? 1 : 0;
            }
            return n;
        }

        /** Which of n items from i on are not 0, the first as the lowest bit. */
        int bits(int row, int i, int n) {
            int bits = 0;
            for (int k = 0; k < n; k++) {
                bits |= items[row * MOST_ITEMS + i + k] != 0 ? 1 << k : 0;
            }
            return bits;
        }

        int findingAt(int row, int i, int n) {
            if (lanes[row] == MISSING) {
                return NULL;
            }
            return isPlace(row, i, n) ? 0 : PLACE;
        }

        int findingOfMove(int a, int i, int b, int j, int n) {
            if (lanes[a] == MISSING || lanes[b] == MISSING) {
                return NULL;
            }
            if (lanes[a] != lanes[b]) {
                return STORE;
            }
            return isPlace(a, i, n) && isPlace(b, j, n) ? 0 : PLACE;
        }

        private boolean isPlace(int row, int i, int n) {
            // by subtraction, since i + n may wrap around
            return i >= 0 && n >= 0 && i <= lengths[row] && n <= lengths[row] - i;
        }
    }

    /** THE TAPE, and its reading; behind a FAULT the place is that of the token which has it. */
    private static final class Tape {
        static final int MOST_BYTES = 80;
        /** Tokens that no byte stands for; letters and signs are tokens by their own number. */
        private static final int NUMBER = -1, END = -2, NOTHING = -3;
        private static final int MOST_FIGURES = 2;
        private static final int CANNOT_STAND = 1, WRONG_NUMBER = 2, NO_ROOM = 3, NO_SUCH_TYPE = 4;

        private final int[] bytes = new int[MOST_BYTES];
        int length;
        private int next;
        private int token;
        private int number;
        int place;
        int latestFault;

        boolean add(int letter) {
            if (length >= MOST_BYTES) {
                return false;
            }
            bytes[length] = letter;
            length++;
            return true;
        }

        boolean read(House to) {
            next = 0;
            to.types = 0;
            if (!takesSign('s') || !takesNumber(1, MOST_CONSTANTS)) {
                return false;
            }
            to.constants = number;
            return takesSign(';') && readTypes(to);
        }

        private boolean readTypes(House to) {
            for (int type = 0; type <= MOST_TYPES; type++) {
                step();
                if (token == END && type > 0) {
                    return to.namesOnlyItsOwn() || fails(NO_SUCH_TYPE);
                }
                int sort = sortOf(token);
                if (sort < 0) {
                    return fails(CANNOT_STAND);
                }
                if (type == MOST_TYPES) {
                    return fails(NO_ROOM);
                }
                if (!readEquation(to, type, sort)) {
                    return false;
                }
            }
            return false;
        }

        private boolean readEquation(House to, int type, int sort) {
            int most = mostOf(sort, type);
            if (!takesNumber(0, most)) {
                return false;
            }
            int a = number;
            if (!takesSign(',') || !takesNumber(sort == SPAN ? a : 0, most)) {
                return false;
            }
            to.types = type + 1;
            to.tell(type, sort, a, number);
            return takesSign(';');
        }

        private static int mostOf(int sort, int type) {
            if (sort == SPAN) {
                return GREATEST_CONSTANT;
            }
            return sort == PAIRS || sort == FUNCTIONS ? MOST_TYPES - 1 : type - 1;
        }

        private static int sortOf(int letter) {
            switch (letter) {
                case 'c': return SPAN;
                case 'p': return PAIRS;
                case 'f': return FUNCTIONS;
                case 'u': return UNION;
                case 'b': return BOTH;
                case 'l': return LESS;
                default: return -1;
            }
        }

        private boolean takesSign(int wanted) {
            step();
            return token == wanted || fails(CANNOT_STAND);
        }

        private boolean takesNumber(int least, int most) {
            step();
            if (token != NUMBER) {
                return fails(CANNOT_STAND);
            }
            return number >= least && number <= most || fails(WRONG_NUMBER);
        }

        private boolean fails(int by) {
            latestFault = by;
            return false;
        }

        private void step() {
            place = next;
            number = 0;
            for (; next < length && isFigure(bytes[next]); next++) {
                // figures beyond the second make it no number at all, so they need not count
                number = next - place < MOST_FIGURES ? number * 10 + bytes[next] - '0' : number;
            }
            if (next > place) {
                token = next - place <= MOST_FIGURES ? NUMBER : NOTHING;
            } else if (next >= length) {
                token = END;
            } else {
                int letter = bytes[next];
                token = letter >= 'a' && letter <= 'z' || letter == ',' || letter == ';' ? letter : NOTHING;
                next++;
            }
        }

        private static boolean isFigure(int letter) {
            return letter >= '0' && letter <= '9';
        }
    }

    /** A HOUSE: its equations; without types it is none. */
    private static final class House {
        final int[] sorts = new int[MOST_TYPES];
        final int[] firsts = new int[MOST_TYPES];
        final int[] seconds = new int[MOST_TYPES];
        int types;
        int constants;

        boolean isNone() {
            return types == 0;
        }

        boolean has(int type) {
            return type >= 0 && type < types;
        }

        int all() {
            return (1 << types) - 1;
        }

        boolean isSet(int bits) {
            return bits >= 0 && bits <= all();
        }

        void takeFrom(House other) {
            System.arraycopy(other.sorts, 0, sorts, 0, MOST_TYPES);
            System.arraycopy(other.firsts, 0, firsts, 0, MOST_TYPES);
            System.arraycopy(other.seconds, 0, seconds, 0, MOST_TYPES);
            types = other.types;
            constants = other.constants;
        }

        boolean mayStand(int type, int sort, int a, int b) {
            if (!has(type) || sort < 0 || sort >= SORTS || a < 0 || b < 0) {
                return false;
            }
            if (sort == SPAN) {
                return a <= b && b <= GREATEST_CONSTANT;
            }
            int most = sort == PAIRS || sort == FUNCTIONS ? types - 1 : type - 1;
            return a <= most && b <= most;
        }

        void tell(int type, int sort, int a, int b) {
            sorts[type] = sort;
            firsts[type] = a;
            seconds[type] = b;
        }

        boolean namesOnlyItsOwn() {
            for (int type = 0; type < types; type++) {
                if (!mayStand(type, sorts[type], firsts[type], seconds[type])) {
                    return false;
                }
            }
            return true;
        }

        int cellOfConstant(int constant) {
            int spans = 0;
            for (int type = 0; type < types; type++) {
                if (sorts[type] == SPAN && firsts[type] <= constant && constant <= seconds[type]) {
                    spans |= 1 << type;
                }
            }
            return cellOf(spans);
        }

        /** All types of a value, from those of its spans, pairs and functions; the others name only lesser ones. */
        int cellOf(int told) {
            int cell = told;
            for (int type = 0; type < types; type++) {
                int a = cell >> firsts[type] & 1;
                int b = cell >> seconds[type] & 1;
                switch (sorts[type]) {
                    case UNION: cell |= (a | b) << type; break;
                    case BOTH: cell |= (a & b) << type; break;
                    case LESS: cell |= (a & (1 ^ b)) << type; break;
                    default: break;
                }
            }
            return cell;
        }

        int ofSort(int sort) {
            int bits = 0;
            for (int type = 0; type < types; type++) {
                bits |= sorts[type] == sort ? 1 << type : 0;
            }
            return bits;
        }

        /** The types of a sort whose A is in a cell. */
        int withFirstIn(int sort, int cell) {
            int bits = 0;
            for (int type = 0; type < types; type++) {
                bits |= sorts[type] == sort ? (cell >> firsts[type] & 1) << type : 0;
            }
            return bits;
        }

        /** The types of a sort whose B is in a cell. */
        int withSecondIn(int sort, int cell) {
            int bits = 0;
            for (int type = 0; type < types; type++) {
                bits |= sorts[type] == sort ? (cell >> seconds[type] & 1) << type : 0;
            }
            return bits;
        }
    }

    /** The ACTS that can be undone: what each type was ahead of one, the latest last. */
    private static final class Acts {
        static final int MOST_ACTS = 24;

        private final int[] types = new int[MOST_ACTS];
        private final int[] sorts = new int[MOST_ACTS];
        private final int[] firsts = new int[MOST_ACTS];
        private final int[] seconds = new int[MOST_ACTS];
        int kept;

        void keep(House house, int type) {
            if (kept == MOST_ACTS) {
                forgetOldest();
            }
            types[kept] = type;
            sorts[kept] = house.sorts[type];
            firsts[kept] = house.firsts[type];
            seconds[kept] = house.seconds[type];
            kept++;
        }

        void takeBack(House house) {
            if (kept > 0) {
                kept--;
                house.tell(types[kept], sorts[kept], firsts[kept], seconds[kept]);
            }
        }

        private void forgetOldest() {
            kept = MOST_ACTS - 1;
            System.arraycopy(types, 1, types, 0, kept);
            System.arraycopy(sorts, 1, sorts, 0, kept);
            System.arraycopy(firsts, 1, firsts, 0, kept);
            System.arraycopy(seconds, 1, seconds, 0, kept);
        }
    }

    /** Sets of types, each with a number above 0, in the order in which they came. */
    private static final class Sets {
        final int[] at = new int[SETS];
        final int[] number = new int[SETS];
        int size;

        void clear() {
            for (int k = 0; k < size; k++) {
                number[at[k]] = 0;
            }
            size = 0;
        }

        boolean add(int set, int n) {
            if (number[set] != 0 || size >= SETS) {
                return false;
            }
            at[size] = set;
            number[set] = n;
            size++;
            return true;
        }

        void raise(int set, int by) {
            if (!add(set, by)) {
                number[set] += by;
            }
        }
    }

    /**
     * Of a sort, pairs or functions: what each cell is to it on the left and on the right, as the types of that
     * sort whose A, whose B is in the cell. A pair, a case tells cells apart only by these.
     */
    private static final class Sides {
        final int[] leftOf = new int[SETS];
        final int[] rightOf = new int[SETS];
        final Sets lefts = new Sets();
        final Sets rights = new Sets();

        void clear() {
            lefts.clear();
            rights.clear();
        }

        void see(House house, int sort, int k, int cell) {
            leftOf[k] = house.withFirstIn(sort, cell);
            rightOf[k] = house.withSecondIn(sort, cell);
            lefts.add(leftOf[k], 1);
            rights.add(rightOf[k], 1);
        }
    }

    /**
     * The CELLS of a house. A value's cell depends only on the cells of its parts, so those of values of height h
     * or less give those of height h + 1 or less, and there is no more to come when a height brings no new one.
     */
    private static final class Cells {
        private final House house = new House();
        private int all;
        private int arrows;
        private int withConstant;
        private int withPair;
        private int withFunction;
        /** Each cell with the height of its lowest value, the lowest first. */
        final Sets found = new Sets();
        private final Sides ofPairs = new Sides();
        private final Sides ofCases = new Sides();
        /** The sets of pair types that pairs have; the sets of function types that functions are not of. */
        private final Sets pairSets = new Sets();
        private final Sets missed = new Sets();
        private final int[] cellOfPair = new int[SETS];
        private final int[] cellMissing = new int[SETS];
        private final int[] open = new int[SETS];
        final int[] supers = new int[MOST_TYPES];
        final int[] meets = new int[MOST_TYPES];

        void measure(House of) {
            begin(of);
            int seen = 0;
            // each height but the last has a cell of its own
            for (int height = 2; height <= SETS + 1 && seen < found.size; height++) {
                int oldPairLefts = ofPairs.lefts.size;
                int oldPairRights = ofPairs.rights.size;
                int oldCaseLefts = ofCases.lefts.size;
                int oldCaseRights = ofCases.rights.size;
                int lower = found.size;
                for (int k = seen; k < lower; k++) {
                    ofPairs.see(house, PAIRS, k, found.at[k]);
                    ofCases.see(house, FUNCTIONS, k, found.at[k]);
                }
                seen = lower;
                addPairs(oldPairLefts, oldPairRights, height);
                addCases(oldCaseLefts, oldCaseRights, height);
            }
            relate();
        }

        private void begin(House of) {
            house.takeFrom(of);
            all = of.all();
            arrows = of.ofSort(FUNCTIONS);
            withConstant = 0;
            withPair = 0;
            withFunction = 0;
            found.clear();
            ofPairs.clear();
            ofCases.clear();
            pairSets.clear();
            missed.clear();
            for (int constant = 0; constant < of.constants; constant++) {
                int cell = of.cellOfConstant(constant);
                withConstant |= cell;
                found.add(cell, 1);
            }
            addFunction(0, 1);
            // no answer is OF no type, as if it were a value of an empty cell
            ofCases.rights.add(0, 1);
        }

        private void addPairs(int oldLefts, int oldRights, int height) {
            for (int i = 0; i < ofPairs.lefts.size; i++) {
                for (int j = i < oldLefts ? oldRights : 0; j < ofPairs.rights.size; j++) {
                    addPair(ofPairs.lefts.at[i] & ofPairs.rights.at[j], height);
                }
            }
        }

        private void addPair(int types, int height) {
            if (pairSets.add(types, 1)) {
                int cell = house.cellOf(types);
                cellOfPair[types] = cell;
                withPair |= cell;
                found.add(cell, height);
            }
        }

        private void addCases(int oldLefts, int oldRights, int height) {
            for (int i = 0; i < ofCases.lefts.size; i++) {
                for (int j = i < oldLefts ? oldRights : 0; j < ofCases.rights.size; j++) {
                    addCase(ofCases.lefts.at[i] & ~ofCases.rights.at[j], height);
                }
            }
        }

        /** A case takes function types away; each function that is known can have it, too. */
        private void addCase(int takes, int height) {
            if (missed.number[takes] != 0) {
                return;
            }
            int known = missed.size;
            for (int k = 0; k < known; k++) {
                addFunction(missed.at[k] | takes, height);
            }
        }

        private void addFunction(int missing, int height) {
            if (missed.add(missing, 1)) {
                int cell = house.cellOf(arrows & ~missing);
                cellMissing[missing] = cell;
                withFunction |= cell;
                found.add(cell, height);
            }
        }

        private void relate() {
            Arrays.fill(supers, all);
            Arrays.fill(meets, 0);
            for (int k = 0; k < found.size; k++) {
                int cell = found.at[k];
                for (int type = 0; type < house.types; type++) {
                    if ((cell >> type & 1) != 0) {
                        supers[type] &= cell;
                        meets[type] |= cell;
                    }
                }
            }
        }

        int leastHeight(int p, int n) {
            for (int k = 0; k < found.size; k++) {
                int cell = found.at[k];
                if ((cell & p) == p && (cell & n) == 0) {
                    return found.number[cell];
                }
            }
            return NONE;
        }

        int lyingIn(int type) {
            int bits = 0;
            for (int t = 0; t < house.types; t++) {
                bits |= (supers[t] >> type & 1) << t;
            }
            return bits;
        }

        int withoutValue() {
            return all & ~(withConstant | withPair | withFunction);
        }

        int inOrder(int k) {
            int left = k;
            for (int cell = 0; cell < SETS; cell++) {
                if (found.number[cell] != 0) {
                    if (left == 0) {
                        return cell;
                    }
                    left--;
                }
            }
            return NONE;
        }

        int holdingAnswers(int f, int a) {
            if ((withConstant >> f & 1) != 0 || (withPair >> f & 1) != 0) {
                return 0;
            }
            openFor(f);
            int holding = all;
            for (int i = 0; i < found.size && holding != 0; i++) {
                if ((found.at[i] >> a & 1) != 0) {
                    holding &= holdingAnswersFrom(ofCases.leftOf[i]);
                }
            }
            return holding;
        }

        private int holdingAnswersFrom(int left) {
            if (open[left] != 0) {
                return 0;
            }
            int holding = all;
            for (int j = 0; j < found.size; j++) {
                if (open[left & ~ofCases.rightOf[j]] != 0) {
                    holding &= found.at[j];
                }
            }
            return holding;
        }

        int alwaysAnswered(int f) {
            if ((withConstant >> f & 1) != 0 || (withPair >> f & 1) != 0) {
                return 0;
            }
            openFor(f);
            int unanswered = 0;
            for (int i = 0; i < found.size; i++) {
                if (open[ofCases.leftOf[i]] != 0) {
                    unanswered |= found.at[i];
                }
            }
            return all & ~unanswered;
        }

        /** Marks what a case may take so that some function of f has it: no more than such a function misses. */
        private void openFor(int f) {
            Arrays.fill(open, 0);
            for (int k = 0; k < missed.size; k++) {
                open[missed.at[k]] = cellMissing[missed.at[k]] >> f & 1;
            }
            for (int bit = 1; bit < SETS; bit <<= 1) {
                for (int set = 0; set < SETS && (arrows & bit) != 0; set++) {
                    open[set] |= open[set | bit];
                }
            }
        }

        int holdingSide(int type, int side) {
            if ((withConstant >> type & 1) != 0 || (withFunction >> type & 1) != 0) {
                return 0;
            }
            int[] sideOf = side == 0 ? ofPairs.leftOf : ofPairs.rightOf;
            Sets opposite = side == 0 ? ofPairs.rights : ofPairs.lefts;
            int holding = all;
            for (int k = 0; k < found.size; k++) {
                if (pairsInto(type, sideOf[k], opposite)) {
                    holding &= found.at[k];
                }
            }
            return holding;
        }

        private boolean pairsInto(int type, int one, Sets opposite) {
            for (int k = 0; k < opposite.size; k++) {
                if ((cellOfPair[one & opposite.at[k]] >> type & 1) != 0) {
                    return true;
                }
            }
            return false;
        }
    }

    /** How many PLAIN values there are, by height: of each type, and of any. */
    private static final class PlainValues {
        private final int[] ofType = new int[HEIGHTS * MOST_TYPES];
        private final int[] total = new int[HEIGHTS];
        private final Sets byCell = new Sets();
        private final Sets byLeft = new Sets();
        private final Sets byRight = new Sets();
        private final Sets byPair = new Sets();

        void measure(House house) {
            Arrays.fill(ofType, 0);
            Arrays.fill(total, 0);
            byCell.clear();
            for (int h = 0; h < HEIGHTS; h++) {
                pairUp(house);
                byCell.clear();
                for (int constant = 0; constant < house.constants; constant++) {
                    byCell.raise(house.cellOfConstant(constant), 1);
                }
                for (int k = 0; k < byPair.size; k++) {
                    int types = byPair.at[k];
                    byCell.raise(house.cellOf(types), byPair.number[types]);
                }
                sumUp(h);
            }
        }

        private void pairUp(House house) {
            byLeft.clear();
            byRight.clear();
            byPair.clear();
            for (int k = 0; k < byCell.size; k++) {
                int cell = byCell.at[k];
                byLeft.raise(house.withFirstIn(PAIRS, cell), byCell.number[cell]);
                byRight.raise(house.withSecondIn(PAIRS, cell), byCell.number[cell]);
            }
            for (int i = 0; i < byLeft.size; i++) {
                int left = byLeft.at[i];
                for (int j = 0; j < byRight.size; j++) {
                    int right = byRight.at[j];
                    byPair.raise(left & right, byLeft.number[left] * byRight.number[right]);
                }
            }
        }

        private void sumUp(int h) {
            for (int k = 0; k < byCell.size; k++) {
                int cell = byCell.at[k];
                int n = byCell.number[cell];
                total[h] += n;
                for (int type = 0; type < MOST_TYPES; type++) {
                    ofType[h * MOST_TYPES + type] += (cell >> type & 1) * n;
                }
            }
        }

        int howMany(int type, int h) {
            return ofType[(h - 1) * MOST_TYPES + type];
        }

        int ofAny(int h) {
            return total[h - 1];
        }
    }

    /** KINDS, and the ASKS of one type; each BODY is the method of its number. */
    private static final class Asks {
        static final int JOINT_KIND = 1, COMMON_KIND = 2, LESS_KIND = 3, PAIRS_KIND = 4, ARROW_KIND = 5;
        static final int LAST_KIND = 5, MOST_LEFT = 16;

        final int[] numbers = new int[MOST_LEFT];
        int left;
        private int one;
        private int kindOfOne;
        private int a;
        private int b;

        static int kindOf(int sort) {
            switch (sort) {
                case PAIRS: return PAIRS_KIND;
                case FUNCTIONS: return ARROW_KIND;
                case UNION: return JOINT_KIND;
                case BOTH: return COMMON_KIND;
                case LESS: return LESS_KIND;
                default: return 0;
            }
        }

        static boolean isOne(int its, int wanted) {
            switch (wanted) {
                case 0: return true;
                case JOINT_KIND: return its >= JOINT_KIND && its <= LESS_KIND;
                case PAIRS_KIND: return its >= PAIRS_KIND;
                default: return its == wanted;
            }
        }

        void begin(House house, int type) {
            left = 0;
            one = type;
            kindOfOne = kindOf(house.sorts[type]);
            a = house.firsts[type];
            b = house.seconds[type];
        }

        int sizeOfOne() {
            switch (kindOfOne) {
                case JOINT_KIND:
                case LESS_KIND: return body11();
                case COMMON_KIND: return body12();
                case PAIRS_KIND: return body13();
                case ARROW_KIND: return body14();
                default: return body10();
            }
        }

        int markOfOne() {
            switch (kindOfOne) {
                case JOINT_KIND: return body21();
                case LESS_KIND: return body22();
                case PAIRS_KIND:
                case ARROW_KIND: return body23();
                case COMMON_KIND: return body24();
                default: return body20();
            }
        }

        private int body10() {
            leave(10);
            return a;
        }

        private int body11() {
            leave(11);
            int size = body10();
            // only joints come here, so MARK, asked anew, has one of their three bodies
            switch (kindOfOne) {
                case LESS_KIND: return size + body22();
                case COMMON_KIND: return size + body24();
                default: return size + body21();
            }
        }

        private int body12() {
            leave(12);
            return -body11();
        }

        private int body13() {
            leave(13);
            return body10() - 100;
        }

        private int body14() {
            leave(14);
            return body13() * 2;
        }

        private int body20() {
            leave(20);
            return one;
        }

        private int body21() {
            leave(21);
            return body20() + b;
        }

        private int body22() {
            leave(22);
            return body21() - 1000;
        }

        private int body23() {
            leave(23);
            int mark = body20();
            // only pairs and arrows come here, so SIZE, asked anew, has one of their two bodies
            return mark - (kindOfOne == ARROW_KIND ? body14() : body13());
        }

        private int body24() {
            leave(24);
            return body21() * 2;
        }

        private void leave(int number) {
            if (left < MOST_LEFT) {
                numbers[left] = number;
                left++;
            }
        }
    }
}
