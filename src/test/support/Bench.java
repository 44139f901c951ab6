import java.lang.reflect.InvocationTargetException;
import java.lang.reflect.Method;
import java.util.ArrayList;
import java.util.Comparator;
import java.util.List;
import java.util.function.Supplier;
import java.util.function.ToLongFunction;

/** What tests share: duchies to begin with, what is due, refusals, the running of all tests of sentences. */
public abstract class Bench {
    static final int NONE = -1, BAD = -2, STATE = -3, FULL = -4;
    static final int NOTHING = -11, OUTSIDE = -12, OTHER = -13, SMALL = -14;
    static final int MIN = Integer.MIN_VALUE, MAX = Integer.MAX_VALUE;
    static final int BYTES = 0, SHORTS = 1, INTS = 2, MISSING = -1;
    static final String PLAIN = "goes 1;stays 0;sees 1;";

    private static String title = "";
    private static int rows;
    private static int wrong;

    static void due(String call, long got, long want) {
        rows++;
        if (got != want) {
            tell(call + " answered " + got + ", due is " + want);
        }
    }

    private static void tell(String fault) {
        wrong++;
        System.out.println(title + ": " + fault);
    }

    /** What is due from here on is told of by this title. */
    static void begin(String newTitle) {
        title = newTitle;
    }

    /** All rows were looked at: exit code 1 if one was wrong. */
    static void end(String what) {
        System.out.println(what + ", " + rows + " rows, " + wrong + " wrong");
        if (wrong != 0 || rows == 0) {
            System.exit(1);
        }
    }

    // ---- beginnings

    /** A duchy whose lanes are told as pairs of digits. */
    static DukeIsLost duchy(String lanes) {
        DukeIsLost x = new DukeIsLost();
        for (String lane : lanes.trim().split(" +")) {
            if (!lane.isEmpty()) {
                x.lane(lane.charAt(0) - '0', lane.charAt(1) - '0', 1);
            }
        }
        return x;
    }

    /** The tape is fed with a text; what text() answers. */
    static int text(DukeIsLost x, String text) {
        for (int i = 0; i < text.length(); i++) {
            x.feed(text.charAt(i));
        }
        return x.text();
    }

    /** A text becomes the rule. */
    static void rule(DukeIsLost x, String text) {
        int number = text(x, text);
        due("'" + text + "' has no fault: 1", number > 0 ? 1 : number, 1);
        x.force(number);
    }

    static void row(DukeIsLost x, int sheet, int sort, int... items) {
        x.sheet(sheet, sort, items.length);
        for (int i = 0; i < items.length; i++) {
            x.cell(sheet, i, items[i]);
        }
    }

    /** The z behind a seed, by way of longs. */
    static int z(int seed) {
        return (int) (seed * 1103515245L + 12345L);
    }

    /** Which of so many is taken by z. */
    static int pick(int z, int many) {
        return (int) ((z & 0xFFFFFFFFL) / 512 % many);
    }

    /** A duchy in which much has been set, so that one sees if a refused call changes something. */
    static DukeIsLost settled() {
        DukeIsLost x = duchy("01 12 23 34 45 56 67");
        x.finder(0, 4, 2);
        x.finder(1, 9, 5);
        x.finder(3, 3, 7);
        rule(x, "goes place<to;stays place=7;sees 1;");
        row(x, 0, BYTES, -1, -1);
        x.sheet(1, SHORTS, 31);
        row(x, 2, INTS, 2, 300, 70000);
        x.set(0, 0, 7);
        x.image();
        x.set(0, 0, 21);
        x.set(1, 0, 6);
        x.set(2, 0, 3);
        x.set(3, 0, 0x5A);
        x.feed('g');
        x.feed('o');
        return x;
    }

    /** The same with no room for more: finders, texts, the tape; WEEK is the last. */
    static DukeIsLost full() {
        DukeIsLost x = new DukeIsLost();
        x.lane(0, 1, 1);
        for (int i = 0; i < 5; i++) {
            x.finder(i, i, i);
        }
        for (int i = 1; i < 6; i++) {
            due("text " + i, text(x, "goes1;stays1;sees1;"), i);
        }
        row(x, 0, BYTES, -1);
        x.image();
        x.set(0, 0, 999);
        for (int i = 0; i < 160; i++) {
            x.feed(i < PLAIN.length() ? PLAIN.charAt(i) : ' ');
        }
        return x;
    }

    // ---- refusals

    static void refused(String call, long want, ToLongFunction<DukeIsLost> ask) {
        refused(call, want, Bench::settled, ask);
    }

    /** A call that is refused answers so, and changes nothing. */
    static void refused(String call, long want, Supplier<DukeIsLost> state, ToLongFunction<DukeIsLost> ask) {
        String ahead = all(state.get());
        DukeIsLost x = state.get();
        due(call, ask.applyAsLong(x), want);
        String behind = all(x);
        rows++;
        if (!behind.equals(ahead)) {
            tell(call + " is refused, but something changed:\n  from " + ahead + "\n  to   " + behind);
        }
    }

    /** All that calls tell of an object's state, and of that of its image. */
    static String all(DukeIsLost x) {
        StringBuilder s = new StringBuilder("TOLD");
        tellDuchy(x, s);
        for (int what = 3; what < 6; what++) {
            s.append(' ').append(x.count(what));
        }
        for (int sheet = 0; sheet < 4; sheet++) {
            s.append(" SHEET ").append(sortOf(x, sheet)).append(' ').append(sizeOf(x, sheet));
            for (int what = 0; what < 3; what++) {
                s.append(' ').append(x.tells(sheet, what));
            }
        }
        s.append(" IMAGE ").append(x.back());
        tellDuchy(x, s);
        return s.toString();
    }

    private static void tellDuchy(DukeIsLost x, StringBuilder s) {
        for (int what = 0; what < 4; what++) {
            s.append(' ').append(x.told(0, what));
        }
        for (int one = 0; one < x.count(0); one++) {
            s.append(" FINDER");
            for (int what = 4; what < 8; what++) {
                s.append(' ').append(x.told(one, what));
            }
        }
        s.append(" LANES");
        for (int p = 0; p < 8; p++) {
            s.append(' ').append(x.told(p, 9));
        }
    }

    // ---- sheets, read by what other calls answer

    /** Taken for one of each sort, n 0: 0 where it is of that sort. */
    static int sortOf(DukeIsLost x, int sheet) {
        for (int sort = 0; sort < 3; sort++) {
            if (x.finders(sheet, sort, 0, 0) == 0) {
                return sort;
            }
        }
        return MISSING;
    }

    /** The last place from which 0 items can be copied; NONE if the sheet is missing. */
    static int sizeOf(DukeIsLost x, int sheet) {
        int low = -1, high = 41;
        while (high - low > 1) {
            int middle = (low + high) / 2;
            if (x.copy(sheet, middle, sheet, middle, 0) == 0) {
                low = middle;
            } else {
                high = middle;
            }
        }
        return low;
    }

    /**
     * Which places the items tell, a '-' for what is no place: each is taken for where a finder stands.
     * Sheet 3 and the image are used for it; there must be room for a finder.
     */
    static String placesOf(DukeIsLost x, int sheet) {
        int sort = sortOf(x, sheet);
        int size = sizeOf(x, sheet);
        StringBuilder s = new StringBuilder();
        x.image();
        x.sheet(3, sort, 3);
        for (int i = 0; i < size; i++) {
            x.copy(sheet, i, 3, 2, 1);
            s.append(x.finders(3, sort, 0, 1) == 1 ? (char) ('0' + x.told(x.count(0) - 1, 5)) : '-');
            x.back();
        }
        return s.toString();
    }

    static void dueText(String call, String got, String want) {
        rows++;
        if (!got.equals(want)) {
            tell(call + " is '" + got + "', due is '" + want + "'");
        }
    }

    // ---- all tests of a class

    static void run(Class<?> tests) {
        List<Method> found = new ArrayList<>();
        for (Method m : tests.getDeclaredMethods()) {
            if (m.isAnnotationPresent(Holds.class)) {
                found.add(m);
            }
        }
        found.sort(Comparator.comparing(Method::getName));
        for (Method m : found) {
            begin(m.getName() + " [" + m.getAnnotation(Holds.class).value() + "]");
            runOne(m);
        }
        end(found.size() + " tests of sentences");
    }

    private static void runOne(Method m) {
        try {
            m.setAccessible(true);
            m.invoke(null);
        } catch (InvocationTargetException e) {
            tell("ended by " + e.getCause());
        } catch (IllegalAccessException e) {
            tell("can't be called: " + e);
        }
    }
}
