import java.util.Arrays;

/**
 * A duchy of eight places, a duke who is lost in it, and up to five finders.
 * A set of places is an int whose bit p stands for the place p.
 */
public final class DukeIsLost {
    public static final int NONE = -1, BAD = -2, STATE = -3, FULL = -4;
    public static final long NO = -4611686018427387904L;

    private static final int NOTHING = -11, OUTSIDE = -12, OTHER_SORT = -13, TOO_SMALL = -14;
    private static final int FAULT_BASE = -100;

    private static final int PLACES = 8, ALL = 255, SETS = 256;
    private static final int MOST_FINDERS = 5, KINDS = 6, NUMBERS = 10, POSES = 10;
    private static final int LAST_WEEK = 999, MOST_FOUND = 999;
    private static final int MOST_WEEKS = 40, MOST_TOLD = 30, MOST_LOOKS = 3;
    private static final int CHANCE_SEEDS = 20, CHANCE_WEEKS = 8;
    private static final int DIGITS_OF_WAY = 9;
    private static final int SHEETS = 4, SORTS = 3, MISSING = -1, BYTES = 0, SHORTS = 1, MOST_ITEMS = 40;
    private static final int MOST_TEXTS = 6, TAPE = 160, MOST_OPEN = 5, DIGITS_OF_NUMBER = 4;

    // What set() and told() ask for, by number.
    private static final int OF_WEEK = 0, OF_POSE = 1, OF_DUKE = 2, OF_THOUGHT = 3, OF_NUMBER = 4, OF_AT = 5;
    private static final int OF_KIND = 6, OF_FOUND = 7, OF_EYES = 8, OF_BESIDE = 9, OF_AFTER = 10;
    // Beside these, for tells(): THE RULE.
    private static final int OF_RULE = 11;
    private static final int[] SET_BELOW = {1000, 10, 8, 256, 10, 8};

    private static final int FINDER = 0, FARMER = 1, MINTER = 2, DOG = 3, CLERK = 4;
    // The kind right above each kind; above FINDER there is none.
    private static final int[] ABOVE = {-1, FINDER, FINDER, FARMER, MINTER, FINDER};

    // The parts of a text, and the names in it, in the order of WORDS.
    private static final int GOES = 0, STAYS = 1, SEES = 2, PARTS = 3;
    private static final int PLACE_NAME = 0, TO_NAME = 1, WEEK_NAME = 2, NUMBER_NAME = 3, WAYS_NAME = 4,
            POSE_NAME = 5, NAMES = 6;

    // Tokens; those below CLOSE may wait among the operators while a text is read.
    private static final int OR = 1, AND = 2, NOT = 3, LESS = 4, EQUAL = 5, PLUS = 6, MINUS = 7, TIMES = 8,
            NEGATE = 9, OPEN = 10, CLOSE = 11, SEMICOLON = 12, FIRST_PART = 13, NUMBER = 16, NAME = 17,
            END = 18, WRONG = 19;
    // How tightly each operator binds; an open bracket keeps what stands ahead of it waiting.
    private static final int[] BINDS = {0, 1, 2, 3, 4, 4, 5, 5, 6, 7, 0};
    private static final int LOOSEST = 1, COMPARES = 4;

    // Each word in WORD_WIDTH characters: the parts, then or, and, not, then the names.
    private static final String WORDS =
            "goes  stays sees  or    and   not   place to    week  numberways  pose  ";
    private static final int WORD_WIDTH = 6, WORD_COUNT = 12, FIRST_OPERATOR = 3, FIRST_NAME = 6;
    private static final String SIGNS = "();+-*<=";
    private static final int[] SIGN_TOKENS = {OPEN, CLOSE, SEMICOLON, PLUS, MINUS, TIMES, LESS, EQUAL};

    // In a text's code a number is itself, an operator is below 0, a name is NAME_CODE less its number.
    private static final int NAME_CODE = -100;
    // With 5 open at most and 5 operators waiting in each, nothing goes deeper than 36.
    private static final int DEEPEST = 64;

    private final Duchy duchy;
    private final Duchy kept;
    private final Book book;
    private final Tape tape;
    private final Weeks weeks;
    private final Hunt hunt;
    private final Telling telling;
    private final Draw draw;
    private final Row[] rows;
    private boolean hasImage;

    public DukeIsLost() {
        duchy = new Duchy();
        kept = new Duchy();
        book = new Book();
        tape = new Tape();
        weeks = new Weeks(duchy, book);
        hunt = new Hunt(duchy, weeks);
        telling = new Telling(duchy, weeks);
        draw = new Draw(duchy, weeks);
        rows = new Row[SHEETS];
        for (int i = 0; i < SHEETS; i++) {
            rows[i] = new Row();
        }
    }

    // ---- the duchy, finders

    public int set(int what, int of, int v) {
        if (!within(what, SET_BELOW.length) || !within(v, SET_BELOW[what])) {
            return BAD;
        }
        if (what >= OF_NUMBER && !within(of, duchy.many)) {
            return BAD;
        }
        int was = duchy.known(of, what);
        duchy.become(of, what, v);
        return was;
    }

    public int lane(int one, int other, int on) {
        if (!within(one, PLACES) || !within(other, PLACES) || one == other || !within(on, 2)) {
            return BAD;
        }
        int was = duchy.lanes[one] >> other & 1;
        duchy.putLane(one, other, on == 1);
        return was;
    }

    public int finder(int kind, int number, int on) {
        return duchy.addFinder(kind, number, on);
    }

    public int told(int of, int what) {
        if (!within(what, OF_AFTER + 1)) {
            return BAD;
        }
        if (what == OF_BESIDE || what == OF_AFTER) {
            if (!within(of, PLACES)) {
                return BAD;
            }
            return what == OF_BESIDE ? duchy.lanes[of] : weeks.nextFrom(of, duchy.week);
        }
        if (what >= OF_NUMBER && !within(of, duchy.many)) {
            return BAD;
        }
        return what == OF_EYES ? weeks.eyesOf(duchy.finders[of]) : duchy.known(of, what);
    }

    // ---- texts

    public int feed(int letter) {
        if (!within(letter, 256)) {
            return BAD;
        }
        return tape.put(letter) ? tape.size : FULL;
    }

    public int text() {
        if (book.many >= MOST_TEXTS) {
            return FULL;
        }
        int fault = tape.readInto(book.texts[book.many]);
        tape.size = 0;
        if (fault != NONE) {
            return FAULT_BASE - fault;
        }
        book.many++;
        return book.many - 1;
    }

    public int force(int text) {
        if (!within(text, book.many)) {
            return BAD;
        }
        int was = duchy.rule;
        duchy.rule = text;
        return was;
    }

    // ---- weeks

    public int spread(int set, int what) {
        if (!within(set, SETS) || !within(what, 3)) {
            return BAD;
        }
        int left = set;
        if (what != 1) {
            weeks.layMoves(duchy.week);
            left = weeks.spreadOf(left);
        }
        if (what != 0) {
            left &= ~weeks.watched(duchy.week);
        }
        return left;
    }

    public int week(int seed) {
        if (duchy.week >= LAST_WEEK) {
            return STATE;
        }
        weeks.layMoves(duchy.week);
        duchy.thought = weeks.spreadOf(duchy.thought);
        duchy.duke = weeks.pickFrom(duchy.duke, duchy.week, Draw.after(seed));
        duchy.week++;
        int seer = weeks.firstSeer(duchy.duke, duchy.week);
        if (seer == NONE) {
            duchy.thought &= ~weeks.watched(duchy.week);
        } else {
            Finder by = duchy.finders[seer];
            by.found = Math.min(by.found + 1, MOST_FOUND);
            duchy.thought = 1 << duchy.duke;
        }
        return seer;
    }

    public int go(int finder, int on) {
        if (!within(finder, duchy.many) || !within(on, PLACES)) {
            return BAD;
        }
        Finder who = duchy.finders[finder];
        int was = who.at;
        if ((duchy.lanes[was] >> on & 1) == 0) {
            return STATE;
        }
        who.at = on;
        return was;
    }

    public int run(int n, int what) {
        if (!within(n, MOST_WEEKS + 1) || !within(what, 3)) {
            return BAD;
        }
        int set = duchy.thought;
        int firstNone = NONE;
        int together = 0;
        // Where none is left, none is left later.
        for (int i = 0; i < n && firstNone == NONE; i++) {
            weeks.layMovesOf(i);
            set = weeks.spreadOf(set) & ~weeks.watched(duchy.week + i + 1);
            together += Integer.bitCount(set);
            if (set == 0) {
                firstNone = i;
            }
        }
        if (what == 0) {
            return set;
        }
        return what == 1 ? firstNone : together;
    }

    // ---- what is sure

    public int sure(int finder, int n, int what) {
        if (!within(finder, duchy.many) || !within(n, MOST_WEEKS + 1) || !within(what, 2)) {
            return BAD;
        }
        Finder one = duchy.finders[finder];
        hunt.prepare(one);
        int fewest = hunt.fewestFrom(one.at, n);
        return what == 0 ? fewest : hunt.wayOf(fewest);
    }

    public int stand(int finder, int what) {
        if (!within(finder, duchy.many) || !within(what, 3)) {
            return BAD;
        }
        hunt.prepare(duchy.finders[finder]);
        int best = NONE;
        int least = NONE;
        int from = 0;
        for (int p = 0; p < PLACES; p++) {
            int fewest = hunt.fewestFrom(p, MOST_WEEKS);
            if (fewest != NONE) {
                from |= 1 << p;
            }
            if (Hunt.isLess(fewest, least)) {
                best = p;
                least = fewest;
            }
        }
        if (what == 2) {
            return from;
        }
        return what == 0 ? best : least;
    }

    public int shut(int finder, int what) {
        if (!within(finder, duchy.many) || !within(what, 2)) {
            return BAD;
        }
        Finder one = duchy.finders[finder];
        int best = NONE;
        hunt.prepare(one);
        int least = hunt.fewestFrom(one.at, MOST_WEEKS);
        for (int lesser = 0; lesser < PLACES; lesser++) {
            for (int other = lesser + 1; other < PLACES; other++) {
                if ((duchy.lanes[lesser] >> other & 1) == 0) {
                    continue;
                }
                int fewest = hunt.fewestWithout(lesser, other, one);
                if (Hunt.isLess(fewest, least)) {
                    best = 10 * lesser + other;
                    least = fewest;
                }
            }
        }
        return what == 0 ? best : least;
    }

    public int look(int n, int what) {
        if (n < 1 || n > MOST_LOOKS || !within(what, 2)) {
            return BAD;
        }
        weeks.layMoves(duchy.week);
        int on = weeks.spreadOf(duchy.thought);
        int best = 0;
        int fewest = PLACES + 1;
        for (int looked = 1; looked <= ALL; looked++) {
            if (Integer.bitCount(looked) != n) {
                continue;
            }
            int left = Integer.bitCount(weeks.spreadOf(on & ~looked));
            if (left < fewest) {
                best = looked;
                fewest = left;
            }
        }
        return what == 0 ? best : fewest;
    }

    // ---- weeks that were told

    public int tells(int sheet, int what) {
        if (!within(sheet, SHEETS) || !within(what, 5)) {
            return BAD;
        }
        Row row = rows[sheet];
        int refusal = refusalOfTold(row);
        if (refusal != 0) {
            return refusal;
        }
        if (what == 3) {
            return telling.fitting(row, NONE, OF_POSE, POSES);
        }
        if (what == 4) {
            return telling.fitting(row, NONE, OF_RULE, book.many);
        }
        telling.follow(row);
        if (what == 0) {
            return telling.last;
        }
        return what == 1 ? telling.now : telling.firstNone;
    }

    public int eyes(int sheet, int finder, int what) {
        if (!within(sheet, SHEETS) || !within(finder, duchy.many) || !within(what, 2)) {
            return BAD;
        }
        Row row = rows[sheet];
        int refusal = refusalOfTold(row);
        if (refusal != 0) {
            return refusal;
        }
        if (what == 0) {
            return telling.fitting(row, finder, OF_KIND, KINDS);
        }
        return telling.fitting(row, finder, OF_NUMBER, NUMBERS);
    }

    public int film(int sheet, int seed, int n) {
        if (!within(sheet, SHEETS) || !within(n, MOST_TOLD + 1)) {
            return BAD;
        }
        Row row = rows[sheet];
        row.become(BYTES, n);
        draw.begin(seed);
        for (int i = 0; i < n; i++) {
            draw.goOn();
            row.put(i, draw.isSeen() ? draw.place : NONE);
        }
        return n;
    }

    public int drawn(int seed, int n) {
        if (!within(n, MOST_WEEKS + 1)) {
            return BAD;
        }
        draw.begin(seed);
        for (int i = 0; i < n; i++) {
            draw.goOn();
        }
        return draw.place;
    }

    public long chance(int seed, int m, int part) {
        if (m < 1 || m > CHANCE_SEEDS || !within(part, 2)) {
            return NO;
        }
        int above = 0;
        for (int i = 0; i < m; i++) {
            if (draw.isSeenBy(seed + i)) {
                above++;
            }
        }
        int common = commonDivisor(above, m);
        return (part == 0 ? above : m) / common;
    }

    public int image() {
        kept.takeFrom(duchy);
        hasImage = true;
        return duchy.many;
    }

    public int back() {
        if (!hasImage) {
            return STATE;
        }
        duchy.takeFrom(kept);
        return duchy.many;
    }

    public int count(int what) {
        switch (what) {
            case 0:
                return duchy.many;
            case 1:
                return duchy.laneCount();
            case 2:
                return Integer.bitCount(duchy.thought);
            case 3:
                return book.many;
            case 4:
                return tape.size;
            case 5:
                return duchy.rule;
            default:
                return BAD;
        }
    }

    // ---- the host

    public int sheet(int sheet, int sort, int n) {
        if (!within(sheet, SHEETS) || sort < MISSING || sort >= SORTS) {
            return BAD;
        }
        if (sort == MISSING) {
            rows[sheet].become(MISSING, 0);
            return 1;
        }
        if (n > MOST_ITEMS) {
            return BAD;
        }
        if (n < 0) {
            return TOO_SMALL;
        }
        rows[sheet].become(sort, n);
        return 1;
    }

    public int cell(int sheet, int i, int v) {
        if (!within(sheet, SHEETS)) {
            return BAD;
        }
        Row row = rows[sheet];
        if (row.sort == MISSING) {
            return NOTHING;
        }
        if (!within(i, row.size)) {
            return OUTSIDE;
        }
        row.put(i, v);
        return 1;
    }

    public int copy(int sheet, int i, int other, int j, int n) {
        if (!within(sheet, SHEETS) || !within(other, SHEETS)) {
            return BAD;
        }
        Row from = rows[sheet];
        Row to = rows[other];
        if (from.sort == MISSING || to.sort == MISSING) {
            return NOTHING;
        }
        if (from.sort != to.sort) {
            return OTHER_SORT;
        }
        if (!from.holds(i, n) || !to.holds(j, n)) {
            return OUTSIDE;
        }
        System.arraycopy(from.items, i, to.items, j, n);
        return n;
    }

    public int finders(int sheet, int sort, int from, int n) {
        if (!within(sheet, SHEETS) || !within(sort, SORTS) || !within(n, MOST_FINDERS + 1)) {
            return BAD;
        }
        Row row = rows[sheet];
        // A missing sheet may be taken for one of any sort; only then is it nothing.
        if (row.sort != MISSING && row.sort != sort) {
            return OTHER_SORT;
        }
        if (row.sort == MISSING) {
            return NOTHING;
        }
        int came = 0;
        for (int k = 0; k < n; k++) {
            // Below 0 or above the row's items, 'from' must not wrap back into them.
            if (!within(from, row.size) || !row.holds(from + 3 * k, 3)) {
                return OUTSIDE;
            }
            int i = from + 3 * k;
            if (duchy.addFinder(row.items[i], row.items[i + 1], row.items[i + 2]) >= 0) {
                came++;
            }
        }
        return came;
    }

    public int taken(int finder, int k) {
        if (!within(k, KINDS)) {
            return BAD;
        }
        if (!within(finder, duchy.many)) {
            return NOTHING;
        }
        Finder one = duchy.finders[finder];
        return one.isUnder(k) ? one.number : OTHER_SORT;
    }

    private static boolean within(int v, int below) {
        return v >= 0 && v < below;
    }

    /** 0 if a row can be read as weeks that were told. */
    private static int refusalOfTold(Row row) {
        if (row.sort == MISSING) {
            return NOTHING;
        }
        return row.size > MOST_TOLD ? BAD : 0;
    }

    /** At least 1, so that it divides; b is at least 1. */
    private static int commonDivisor(int a, int b) {
        for (int d = b; d > 1; d--) {
            if (a % d == 0 && b % d == 0) {
                return d;
            }
        }
        return 1;
    }

    private static final class Finder {
        int kind;
        int number;
        int at;
        int found;

        void takeFrom(Finder other) {
            kind = other.kind;
            number = other.number;
            at = other.at;
            found = other.found;
        }

        /** Whether this one is of a kind, or of one under it. */
        boolean isUnder(int above) {
            int k = kind;
            for (int step = 0; step < KINDS && within(k, KINDS); step++) {
                if (k == above) {
                    return true;
                }
                k = ABOVE[k];
            }
            return false;
        }
    }

    /** All that an image keeps. */
    private static final class Duchy {
        final int[] lanes = new int[PLACES];
        final Finder[] finders = new Finder[MOST_FINDERS];
        int many;
        int week;
        int pose;
        int duke;
        int thought = ALL;
        int rule;

        Duchy() {
            for (int i = 0; i < MOST_FINDERS; i++) {
                finders[i] = new Finder();
            }
        }

        void takeFrom(Duchy other) {
            System.arraycopy(other.lanes, 0, lanes, 0, PLACES);
            for (int i = 0; i < MOST_FINDERS; i++) {
                finders[i].takeFrom(other.finders[i]);
            }
            many = other.many;
            week = other.week;
            pose = other.pose;
            duke = other.duke;
            thought = other.thought;
            rule = other.rule;
        }

        int addFinder(int kind, int number, int on) {
            if (!within(kind, KINDS) || !within(number, NUMBERS) || !within(on, PLACES)) {
                return BAD;
            }
            if (many >= MOST_FINDERS) {
                return FULL;
            }
            Finder one = finders[many];
            one.kind = kind;
            one.number = number;
            one.at = on;
            one.found = 0;
            many++;
            return many - 1;
        }

        void putLane(int one, int other, boolean on) {
            if (on) {
                lanes[one] |= 1 << other;
                lanes[other] |= 1 << one;
            } else {
                lanes[one] &= ~(1 << other);
                lanes[other] &= ~(1 << one);
            }
        }

        int laneCount() {
            int ends = 0;
            for (int p = 0; p < PLACES; p++) {
                ends += Integer.bitCount(lanes[p]);
            }
            return ends / 2;
        }

        /** The caller has looked whether there is a finder, where one is asked for. */
        int known(int of, int what) {
            switch (what) {
                case OF_WEEK:
                    return week;
                case OF_POSE:
                    return pose;
                case OF_DUKE:
                    return duke;
                case OF_THOUGHT:
                    return thought;
                case OF_RULE:
                    return rule;
                default:
                    return within(of, many) ? knownOf(finders[of], what) : BAD;
            }
        }

        private static int knownOf(Finder one, int what) {
            switch (what) {
                case OF_NUMBER:
                    return one.number;
                case OF_AT:
                    return one.at;
                case OF_KIND:
                    return one.kind;
                case OF_FOUND:
                    return one.found;
                default:
                    return BAD;
            }
        }

        void become(int of, int what, int v) {
            switch (what) {
                case OF_WEEK:
                    week = v;
                    break;
                case OF_POSE:
                    pose = v;
                    break;
                case OF_DUKE:
                    duke = v;
                    break;
                case OF_THOUGHT:
                    thought = v;
                    break;
                case OF_RULE:
                    rule = v;
                    break;
                default:
                    if (within(of, many)) {
                        becomeOf(finders[of], what, v);
                    }
                    break;
            }
        }

        private static void becomeOf(Finder one, int what, int v) {
            if (what == OF_NUMBER) {
                one.number = v;
            } else if (what == OF_AT) {
                one.at = v;
            } else if (what == OF_KIND) {
                one.kind = v;
            }
        }
    }

    /** A text in code: each part's operands and operators, an operator behind what it joins. */
    private static final class Text {
        final int[] code = new int[TAPE];
        // Where each part begins in the code, and behind the last where it ends.
        final int[] bounds = new int[PARTS + 1];
        int length;
        boolean hasWeek;

        void clear() {
            length = 0;
            hasWeek = false;
        }

        void beginPart(int part) {
            if (within(part, bounds.length)) {
                bounds[part] = length;
            }
        }

        void add(int item) {
            if (length < code.length) {
                code[length] = item;
                length++;
                hasWeek = hasWeek || item == NAME_CODE - WEEK_NAME;
            }
        }
    }

    /** The texts, and what they say of the names. */
    private static final class Book {
        final Text[] texts = new Text[MOST_TEXTS];
        final int[] names = new int[NAMES];
        final int[] stack = new int[DEEPEST];
        int many = 1;

        Book() {
            for (int i = 0; i < MOST_TEXTS; i++) {
                texts[i] = new Text();
            }
            writeFirst(texts[0]);
        }

        /** goes 1 ; stays 0 ; sees 1 ; */
        private static void writeFirst(Text text) {
            text.beginPart(GOES);
            text.add(1);
            text.beginPart(STAYS);
            text.add(0);
            text.beginPart(SEES);
            text.add(1);
            text.beginPart(PARTS);
        }

        boolean namesWeek(int which) {
            return within(which, many) && texts[which].hasWeek;
        }

        /** Whether a part of a text is true of the names as they are. */
        boolean says(int which, int part) {
            if (!within(which, many) || !within(part, PARTS)) {
                return false;
            }
            Text text = texts[which];
            int end = text.bounds[part + 1];
            int top = 0;
            for (int i = text.bounds[part]; i < end && i < text.length; i++) {
                int item = text.code[i];
                if (item >= 0 || item <= NAME_CODE) {
                    if (top < DEEPEST) {
                        stack[top] = item >= 0 ? item : nameOf(NAME_CODE - item);
                        top++;
                    }
                } else if (-item == NOT || -item == NEGATE) {
                    if (top >= 1) {
                        stack[top - 1] = turned(-item, stack[top - 1]);
                    }
                } else if (top >= 2) {
                    top--;
                    stack[top - 1] = joined(-item, stack[top - 1], stack[top]);
                }
            }
            return top >= 1 && stack[0] != 0;
        }

        private int nameOf(int name) {
            return name >= 0 && name < NAMES ? names[name] : 0;
        }

        private static int turned(int operator, int a) {
            if (operator == NEGATE) {
                return -a;
            }
            return a == 0 ? 1 : 0;
        }

        private static int joined(int operator, int a, int b) {
            switch (operator) {
                case OR:
                    return a != 0 || b != 0 ? 1 : 0;
                case AND:
                    return a != 0 && b != 0 ? 1 : 0;
                case LESS:
                    return a < b ? 1 : 0;
                case EQUAL:
                    return a == b ? 1 : 0;
                case PLUS:
                    return a + b;
                case MINUS:
                    return a - b;
                default:
                    return a * b;
            }
        }
    }

    /** The tape, and the reading of a text from it. */
    private static final class Tape {
        final int[] bytes = new int[TAPE];
        int size;
        // The token at hand: what it is, its value, its first byte; and the byte behind it.
        private int token;
        private int value;
        private int place;
        private int next;
        // Operators that wait for what stands behind them, and how many of them count as open.
        private final int[] waiting = new int[DEEPEST];
        private int waits;
        private int open;

        boolean put(int letter) {
            if (size >= bytes.length) {
                return false;
            }
            bytes[size] = letter;
            size++;
            return true;
        }

        /** The place of the fault, or NONE. */
        int readInto(Text text) {
            next = 0;
            text.clear();
            for (int part = 0; part < PARTS; part++) {
                advance();
                if (token != FIRST_PART + part) {
                    return place;
                }
                text.beginPart(part);
                if (!readPart(text)) {
                    return place;
                }
            }
            text.beginPart(PARTS);
            advance();
            return token == END ? NONE : place;
        }

        /** An expression and the semicolon behind it; if not, the token at hand is the fault. */
        private boolean readPart(Text text) {
            waits = 0;
            open = 0;
            boolean wantsOne = true;
            for (int i = 0; i <= TAPE; i++) {
                advance();
                if (wantsOne) {
                    if (token == NUMBER || token == NAME) {
                        text.add(token == NUMBER ? value : NAME_CODE - value);
                        wantsOne = false;
                    } else if (!takeAhead()) {
                        return false;
                    }
                } else if (token == SEMICOLON) {
                    settle(text, LOOSEST);
                    return waits == 0;
                } else if (token == CLOSE) {
                    if (!takeClose(text)) {
                        return false;
                    }
                } else if (takeBetween(text)) {
                    wantsOne = true;
                } else {
                    return false;
                }
            }
            return false;
        }

        /** What may stand ahead of an operand: a bracket, a not, a minus. */
        private boolean takeAhead() {
            if (open >= MOST_OPEN) {
                return false;
            }
            if (token == OPEN) {
                return hold(OPEN);
            }
            if (token == MINUS) {
                return hold(NEGATE);
            }
            return token == NOT && notMayStand() && hold(NOT);
        }

        /** A not begins a NOT, which is no part of a comparison, a sum, a term. */
        private boolean notMayStand() {
            return waits == 0 || BINDS[waiting[waits - 1]] < COMPARES;
        }

        private boolean takeClose(Text text) {
            settle(text, LOOSEST);
            if (waits == 0) {
                return false;
            }
            waits--;
            open--;
            return true;
        }

        private boolean takeBetween(Text text) {
            if (token < OR || token > TIMES || token == NOT) {
                return false;
            }
            boolean compares = BINDS[token] == COMPARES;
            // Like ones are done from the left, but a comparison takes no second one.
            settle(text, compares ? COMPARES + 1 : BINDS[token]);
            if (compares && waits > 0 && BINDS[waiting[waits - 1]] == COMPARES) {
                return false;
            }
            return hold(token);
        }

        private boolean hold(int operator) {
            if (waits >= waiting.length) {
                return false;
            }
            waiting[waits] = operator;
            waits++;
            if (counts(operator)) {
                open++;
            }
            return true;
        }

        /** Writes the operators that bind at least so tightly, down to the last open bracket. */
        private void settle(Text text, int binds) {
            for (int i = waits; i > 0 && BINDS[waiting[i - 1]] >= binds; i--) {
                waits = i - 1;
                text.add(-waiting[waits]);
                if (counts(waiting[waits])) {
                    open--;
                }
            }
        }

        private static boolean counts(int operator) {
            return operator == OPEN || operator == NOT || operator == NEGATE;
        }

        /** The next token comes to hand. */
        private void advance() {
            while (next < size && (bytes[next] == 32 || bytes[next] == 10)) {
                next++;
            }
            place = next;
            if (next >= size) {
                token = END;
            } else if (isLetter(bytes[next])) {
                takeWord();
            } else if (isDigit(bytes[next])) {
                takeNumber();
            } else {
                takeSign();
            }
        }

        private void takeWord() {
            while (next < size && isLetter(bytes[next])) {
                next++;
            }
            token = WRONG;
            for (int w = 0; w < WORD_COUNT; w++) {
                if (isWord(w)) {
                    value = w - FIRST_NAME;
                    if (w >= FIRST_NAME) {
                        token = NAME;
                    } else {
                        token = w >= FIRST_OPERATOR ? OR + w - FIRST_OPERATOR : FIRST_PART + w;
                    }
                }
            }
        }

        private boolean isWord(int w) {
            int length = next - place;
            if (length > WORD_WIDTH) {
                return false;
            }
            for (int i = 0; i < WORD_WIDTH; i++) {
                char due = WORDS.charAt(w * WORD_WIDTH + i);
                if (i < length ? bytes[place + i] != due : due != ' ') {
                    return false;
                }
            }
            return true;
        }

        private void takeNumber() {
            value = 0;
            while (next < size && isDigit(bytes[next])) {
                value = value * 10 + bytes[next] - '0';
                next++;
            }
            token = next - place > DIGITS_OF_NUMBER ? WRONG : NUMBER;
        }

        private void takeSign() {
            int sign = SIGNS.indexOf((char) bytes[next]);
            token = within(sign, SIGN_TOKENS.length) ? SIGN_TOKENS[sign] : WRONG;
            next++;
        }

        private static boolean isLetter(int b) {
            return b >= 'a' && b <= 'z';
        }

        private static boolean isDigit(int b) {
            return b >= '0' && b <= '9';
        }
    }

    /** What might be in a week, by the rule. */
    private static final class Weeks {
        private final Duchy duchy;
        private final Book book;
        // From each place, the places at which he could be a week on; layMoves() writes them.
        final int[] moves = new int[PLACES];

        Weeks(Duchy duchy, Book book) {
            this.duchy = duchy;
            this.book = book;
        }

        void layMoves(int week) {
            for (int p = 0; p < PLACES; p++) {
                moves[p] = nextFrom(p, week);
            }
        }

        /** Laid for week after week, moves change only by a rule that names the week. */
        void layMovesOf(int weeksOn) {
            if (weeksOn == 0 || book.namesWeek(duchy.rule)) {
                layMoves(duchy.week + weeksOn);
            }
        }

        int nextFrom(int place, int week) {
            askOf(place, week, 0);
            int set = 0;
            for (int to = 0; to < PLACES; to++) {
                if ((duchy.lanes[place] >> to & 1) != 0) {
                    book.names[TO_NAME] = to;
                    if (book.says(duchy.rule, GOES)) {
                        set |= 1 << to;
                    }
                }
            }
            book.names[TO_NAME] = 0;
            if (book.says(duchy.rule, STAYS) || set == 0) {
                set |= 1 << place;
            }
            return set;
        }

        private void askOf(int place, int week, int number) {
            book.names[PLACE_NAME] = place;
            book.names[TO_NAME] = 0;
            book.names[WEEK_NAME] = week;
            book.names[NUMBER_NAME] = number;
            book.names[WAYS_NAME] = Integer.bitCount(duchy.lanes[place]);
            book.names[POSE_NAME] = duchy.pose;
        }

        int spreadOf(int set) {
            int on = 0;
            for (int p = 0; p < PLACES; p++) {
                if ((set >> p & 1) != 0) {
                    on |= moves[p];
                }
            }
            return on;
        }

        boolean wouldSee(Finder one, int place, int week) {
            askOf(place, week, one.number);
            boolean yes = book.says(duchy.rule, SEES);
            switch (one.kind) {
                case FINDER:
                    return yes;
                case FARMER:
                    return yes || place == one.number % PLACES;
                case MINTER:
                    return yes && place % 2 == 0;
                case DOG:
                    return duchy.pose != one.number;
                case CLERK:
                    return yes && place % 2 == 0 || week % 4 == 0;
                default:
                    return false;
            }
        }

        int eyesOf(Finder one) {
            int set = 0;
            for (int p = 0; p < PLACES; p++) {
                if (wouldSee(one, p, duchy.week)) {
                    set |= 1 << p;
                }
            }
            return set;
        }

        /** The places at which some finder stands and sees. */
        int watched(int week) {
            int set = 0;
            for (int i = 0; i < duchy.many; i++) {
                Finder one = duchy.finders[i];
                if (wouldSee(one, one.at, week)) {
                    set |= 1 << one.at;
                }
            }
            return set;
        }

        int firstSeer(int place, int week) {
            for (int i = 0; i < duchy.many; i++) {
                Finder one = duchy.finders[i];
                if (one.at == place && wouldSee(one, place, week)) {
                    return i;
                }
            }
            return NONE;
        }

        /** Where he is a week on, by lot. */
        int pickFrom(int place, int week, int z) {
            int set = nextFrom(place, week);
            int ways = Math.max(1, Integer.bitCount(set));
            int ahead = (z >>> 9) % ways;
            for (int p = 0; p < PLACES; p++) {
                if ((set >> p & 1) != 0) {
                    if (ahead == 0) {
                        return p;
                    }
                    ahead--;
                }
            }
            return place;
        }
    }

    /** The search for the fewest weeks in which one finder alone surely finds him. */
    private static final class Hunt {
        private final Duchy duchy;
        private final Weeks weeks;
        private final int[] spreads = new int[SETS];
        // A state is where one is (times 256) and where he could be; each knows that ahead of it.
        private final int[] ahead = new int[PLACES * SETS];
        private final int[] queue = new int[PLACES * SETS];
        private int queued;
        private int eyeBits;
        private int goal;

        Hunt(Duchy duchy, Weeks weeks) {
            this.duchy = duchy;
            this.weeks = weeks;
        }

        /** NONE is more than any number of weeks. */
        static boolean isLess(int fewest, int least) {
            return fewest != NONE && (least == NONE || fewest < least);
        }

        /** Lays the tables of one finder, by the lanes and the week as they are. */
        void prepare(Finder one) {
            weeks.layMoves(duchy.week);
            for (int set = 0; set < SETS; set++) {
                spreads[set] = weeks.spreadOf(set);
            }
            eyeBits = weeks.eyesOf(one);
        }

        int fewestWithout(int lesser, int other, Finder one) {
            duchy.putLane(lesser, other, false);
            prepare(one);
            int fewest = fewestFrom(one.at, MOST_WEEKS);
            duchy.putLane(lesser, other, true);
            return fewest;
        }

        /**
         * States come into the queue in the order of their ways, so the first goal
         * that is met has the first of the shortest ways.
         */
        int fewestFrom(int from, int n) {
            goal = NONE;
            if (duchy.thought == 0) {
                return 0;
            }
            Arrays.fill(ahead, NONE);
            queued = 0;
            int first = from * SETS + duchy.thought;
            enqueue(first, first);
            int done = 0;
            for (int week = 1; week <= n; week++) {
                int end = queued;
                for (int i = done; i < end; i++) {
                    goOnFrom(queue[i]);
                    if (goal != NONE) {
                        return week;
                    }
                }
                done = end;
            }
            return NONE;
        }

        private void goOnFrom(int state) {
            int here = state / SETS;
            int steps = duchy.lanes[here] | 1 << here;
            int on = spreads[state % SETS];
            for (int p = 0; p < PLACES && goal == NONE; p++) {
                if ((steps >> p & 1) != 0) {
                    int left = on & ~(eyeBits & 1 << p);
                    enqueue(p * SETS + left, state);
                    if (left == 0) {
                        goal = p * SETS;
                    }
                }
            }
        }

        private void enqueue(int state, int behind) {
            if (ahead[state] == NONE && queued < queue.length) {
                ahead[state] = behind;
                queue[queued] = state;
                queued++;
            }
        }

        /** The way that fewestFrom() found last, as digits. */
        int wayOf(int fewest) {
            if (fewest == NONE || fewest > DIGITS_OF_WAY) {
                return NONE;
            }
            int way = 0;
            int unit = 1;
            int state = goal;
            for (int i = 0; i < fewest && state != NONE; i++) {
                way += (state / SETS + 1) * unit;
                unit *= 10;
                state = ahead[state];
            }
            return way;
        }
    }

    /** Weeks of sightings read back. */
    private static final class Telling {
        private final Duchy duchy;
        private final Weeks weeks;
        // Of each place, at which places he could have been at first, if he is there at last.
        private int[] starts = new int[PLACES];
        private int[] spare = new int[PLACES];
        int last;
        int now;
        int firstNone;

        Telling(Duchy duchy, Weeks weeks) {
            this.duchy = duchy;
            this.weeks = weeks;
        }

        /** Whether some place is left. */
        boolean follow(Row row) {
            for (int p = 0; p < PLACES; p++) {
                starts[p] = 1 << p;
            }
            firstNone = NONE;
            sumUp();
            for (int i = 0; i < row.size && firstNone == NONE; i++) {
                weeks.layMovesOf(i);
                goAlongMoves();
                keepTold(row.items[i], weeks.watched(duchy.week + i + 1));
                sumUp();
                if (last == 0) {
                    firstNone = i;
                }
            }
            return firstNone == NONE;
        }

        private void goAlongMoves() {
            Arrays.fill(spare, 0);
            for (int p = 0; p < PLACES; p++) {
                for (int to = 0; to < PLACES; to++) {
                    if ((weeks.moves[p] >> to & 1) != 0) {
                        spare[to] |= starts[p];
                    }
                }
            }
            int[] was = starts;
            starts = spare;
            spare = was;
        }

        /** A number that is neither -1 nor a place leaves none. */
        private void keepTold(int number, int watched) {
            for (int p = 0; p < PLACES; p++) {
                boolean seen = (watched >> p & 1) != 0;
                boolean fits = number == NONE ? !seen : seen && p == number;
                if (!fits) {
                    starts[p] = 0;
                }
            }
        }

        private void sumUp() {
            last = 0;
            now = 0;
            for (int p = 0; p < PLACES; p++) {
                if (starts[p] != 0) {
                    last |= 1 << p;
                    now |= starts[p];
                }
            }
        }

        /** The values below 'below' (bits) by which some place is left, were what is asked for each of them. */
        int fitting(Row row, int of, int what, int below) {
            int was = duchy.known(of, what);
            int fits = 0;
            for (int v = 0; v < below; v++) {
                duchy.become(of, what, v);
                if (follow(row)) {
                    fits |= 1 << v;
                }
            }
            duchy.become(of, what, was);
            return fits;
        }
    }

    /** A duke who goes by lot, in thought. */
    private static final class Draw {
        private final Duchy duchy;
        private final Weeks weeks;
        private int z;
        private int week;
        int place;

        Draw(Duchy duchy, Weeks weeks) {
            this.duchy = duchy;
            this.weeks = weeks;
        }

        static int after(int seed) {
            return seed * 1103515245 + 12345;
        }

        void begin(int seed) {
            z = seed;
            week = duchy.week;
            place = duchy.duke;
        }

        void goOn() {
            z = after(z);
            place = weeks.pickFrom(place, week, z);
            week++;
        }

        boolean isSeen() {
            return weeks.firstSeer(place, week) != NONE;
        }

        boolean isSeenBy(int seed) {
            begin(seed);
            for (int i = 0; i < CHANCE_WEEKS; i++) {
                goOn();
                if (isSeen()) {
                    return true;
                }
            }
            return false;
        }
    }

    /** A sheet. */
    private static final class Row {
        final int[] items = new int[MOST_ITEMS];
        int sort = MISSING;
        int size;

        void become(int newSort, int n) {
            sort = newSort;
            size = Math.max(0, Math.min(n, MOST_ITEMS));
            Arrays.fill(items, 0);
        }

        /** An item is no wider than its sort. */
        void put(int i, int v) {
            if (!within(i, size)) {
                return;
            }
            if (sort == BYTES) {
                items[i] = (byte) v;
            } else if (sort == SHORTS) {
                items[i] = (short) v;
            } else {
                items[i] = v;
            }
        }

        /** Whether n items from i on all lie inside; with n 0, whether i does, or is just behind. */
        boolean holds(int i, int n) {
            return i >= 0 && n >= 0 && i <= size && n <= size - i;
        }
    }
}
