import java.util.ArrayList;
import java.util.HashSet;
import java.util.List;
import java.util.Random;
import java.util.Set;
import java.util.TreeSet;

// Runs of calls by lot (fixed seeds); each answer is compared with that of a slow model,
// which is written another way: sets of Integers, a text as a tree, searches by trying all.
public final class ModelTests {
    private static final int RUNS = 1500, CALLS = 512;

    // ---- texts

    interface E {
        int of(Model m, int place, int to, int week, int number);
    }

    static final class Fault extends RuntimeException {
        private static final long serialVersionUID = 1L;
        final int place;

        Fault(int place) {
            super("fault", null, false, false);
            this.place = place;
        }
    }

    /** Reads by descent, right from the characters. */
    static final class Descent {
        final String s;
        int i;
        int open;

        Descent(String s) {
            this.s = s;
        }

        E[] read() {
            E[] parts = new E[3];
            String[] heads = {"goes", "stays", "sees"};
            for (int k = 0; k < 3; k++) {
                want(heads[k]);
                parts[k] = or();
                want(";");
            }
            if (!peek().isEmpty()) {
                throw new Fault(i);
            }
            return parts;
        }

        /** The token at i, behind blanks; "" at the end. A wrong one is a fault. */
        String peek() {
            while (i < s.length() && (s.charAt(i) == ' ' || s.charAt(i) == '\n')) {
                i++;
            }
            int j = i;
            while (j < s.length() && s.charAt(j) >= 'a' && s.charAt(j) <= 'z') {
                j++;
            }
            if (j > i) {
                String word = s.substring(i, j);
                if (!List.of("goes", "stays", "sees", "or", "and", "not", "place", "to", "week", "number", "ways",
                        "pose").contains(word)) {
                    throw new Fault(i);
                }
                return word;
            }
            while (j < s.length() && s.charAt(j) >= '0' && s.charAt(j) <= '9') {
                j++;
            }
            if (j - i > 4) {
                throw new Fault(i);
            }
            if (j > i) {
                return s.substring(i, j);
            }
            if (i == s.length()) {
                return "";
            }
            if ("();+-*<=".indexOf(s.charAt(i)) < 0) {
                throw new Fault(i);
            }
            return s.substring(i, i + 1);
        }

        boolean take(String token) {
            if (peek().equals(token)) {
                i += token.length();
                return true;
            }
            return false;
        }

        void want(String token) {
            if (!take(token)) {
                throw new Fault(i);
            }
        }

        void opens() {
            if (open == 5) {
                throw new Fault(i);
            }
            open++;
        }

        static int bit(boolean b) {
            return b ? 1 : 0;
        }

        E or() {
            E a = and();
            while (take("or")) {
                E l = a, r = and();
                a = (m, p, t, w, n) -> bit(l.of(m, p, t, w, n) != 0 | r.of(m, p, t, w, n) != 0);
            }
            return a;
        }

        E and() {
            E a = not();
            while (take("and")) {
                E l = a, r = not();
                a = (m, p, t, w, n) -> bit(l.of(m, p, t, w, n) != 0 & r.of(m, p, t, w, n) != 0);
            }
            return a;
        }

        E not() {
            if (peek().equals("not")) {
                opens();
                take("not");
                E a = not();
                open--;
                return (m, p, t, w, n) -> bit(a.of(m, p, t, w, n) == 0);
            }
            E l = sum();
            if (take("<")) {
                E r = sum();
                return (m, p, t, w, n) -> bit(l.of(m, p, t, w, n) < r.of(m, p, t, w, n));
            }
            if (take("=")) {
                E r = sum();
                return (m, p, t, w, n) -> bit(l.of(m, p, t, w, n) == r.of(m, p, t, w, n));
            }
            return l;
        }

        E sum() {
            E a = term();
            while (true) {
                E l = a;
                if (take("+")) {
                    E r = term();
                    a = (m, p, t, w, n) -> l.of(m, p, t, w, n) + r.of(m, p, t, w, n);
                } else if (take("-")) {
                    E r = term();
                    a = (m, p, t, w, n) -> l.of(m, p, t, w, n) - r.of(m, p, t, w, n);
                } else {
                    return a;
                }
            }
        }

        E term() {
            E a = one();
            while (take("*")) {
                E l = a, r = one();
                a = (m, p, t, w, n) -> l.of(m, p, t, w, n) * r.of(m, p, t, w, n);
            }
            return a;
        }

        E one() {
            String token = peek();
            if (token.equals("-")) {
                opens();
                take("-");
                E a = one();
                open--;
                return (m, p, t, w, n) -> -a.of(m, p, t, w, n);
            }
            if (token.equals("(")) {
                opens();
                take("(");
                E a = or();
                want(")");
                open--;
                return a;
            }
            E a = named(token);
            if (a == null) {
                throw new Fault(i);
            }
            take(token);
            return a;
        }

        static E named(String token) {
            if (!token.isEmpty() && token.charAt(0) >= '0' && token.charAt(0) <= '9') {
                int v = Integer.parseInt(token);
                return (m, p, t, w, n) -> v;
            }
            switch (token) {
                case "place":
                    return (m, p, t, w, n) -> p;
                case "to":
                    return (m, p, t, w, n) -> t;
                case "week":
                    return (m, p, t, w, n) -> w;
                case "number":
                    return (m, p, t, w, n) -> n;
                case "ways":
                    return (m, p, t, w, n) -> m.besides(p).size();
                case "pose":
                    return (m, p, t, w, n) -> m.pose;
                default:
                    return null;
            }
        }
    }

    // ---- the model

    static final class Man implements Cloneable {
        int kind, number, at, found;

        Man copy() {
            Man m = new Man();
            m.kind = kind;
            m.number = number;
            m.at = at;
            m.found = found;
            return m;
        }
    }

    static final class Model {
        Set<String> lanes = new HashSet<>();
        int week, pose, duke, rule;
        Set<Integer> thought = places(255);
        List<Man> men = new ArrayList<>();
        List<E[]> texts = new ArrayList<>();
        StringBuilder tape = new StringBuilder();
        Object[] sheets = new Object[4];
        Model image;

        Model() {
            texts.add(new Descent("goes 1 ; stays 0 ; sees 1 ;").read());
        }

        /** All that an image keeps; texts are shared. */
        Model copy() {
            Model c = new Model();
            c.lanes = new HashSet<>(lanes);
            c.week = week;
            c.pose = pose;
            c.duke = duke;
            c.rule = rule;
            c.thought = new TreeSet<>(thought);
            for (Man m : men) {
                c.men.add(m.copy());
            }
            c.texts = texts;
            return c;
        }

        static Set<Integer> places(int bits) {
            Set<Integer> s = new TreeSet<>();
            for (int p = 0; p < 8; p++) {
                if ((bits & 1 << p) != 0) {
                    s.add(p);
                }
            }
            return s;
        }

        static int bits(Set<Integer> s) {
            int b = 0;
            for (int p : s) {
                b += 1 << p;
            }
            return b;
        }

        static String key(int a, int b) {
            return Math.min(a, b) + "-" + Math.max(a, b);
        }

        Set<Integer> besides(int p) {
            Set<Integer> s = new TreeSet<>();
            for (int q = 0; q < 8; q++) {
                if (lanes.contains(key(p, q))) {
                    s.add(q);
                }
            }
            return s;
        }

        Set<Integer> nexts(int p, int w) {
            Set<Integer> s = new TreeSet<>();
            for (int q : besides(p)) {
                if (texts.get(rule)[0].of(this, p, q, w, 0) != 0) {
                    s.add(q);
                }
            }
            if (texts.get(rule)[1].of(this, p, 0, w, 0) != 0 || s.isEmpty()) {
                s.add(p);
            }
            return s;
        }

        Set<Integer> spreads(Set<Integer> s, int w) {
            Set<Integer> r = new TreeSet<>();
            for (int p : s) {
                r.addAll(nexts(p, w));
            }
            return r;
        }

        boolean seesAt(Man m, int p, int w) {
            boolean yes = texts.get(rule)[2].of(this, p, 0, w, m.number) != 0;
            boolean minter = yes && p % 2 == 0;
            boolean[] by = {yes, yes || p == m.number % 8, minter, pose != m.number, minter || w % 4 == 0, false};
            return by[m.kind];
        }

        Man seer(int p, int w) {
            for (Man m : men) {
                if (m.at == p && seesAt(m, p, w)) {
                    return m;
                }
            }
            return null;
        }

        Set<Integer> looks(Set<Integer> s, int w) {
            Set<Integer> r = new TreeSet<>(s);
            r.removeIf(p -> seer(p, w) != null);
            return r;
        }

        int step(int p, int w, int z) {
            List<Integer> l = new ArrayList<>(nexts(p, w));
            return l.get((z >>> 9) % l.size());
        }

        /** All places and sets, week by week; the weeks till none is left. */
        int fewest(Man one, int from, int n) {
            Set<Integer> layer = new TreeSet<>();
            layer.add(from * 256 + bits(thought));
            Set<Integer> met = new HashSet<>(layer);
            for (int w = 0; w <= n; w++) {
                Set<Integer> next = new TreeSet<>();
                for (int state : layer) {
                    if (state % 256 == 0) {
                        return w;
                    }
                    Set<Integer> on = spreads(places(state % 256), week);
                    Set<Integer> steps = besides(state / 256);
                    steps.add(state / 256);
                    for (int p : steps) {
                        Set<Integer> left = new TreeSet<>(on);
                        if (seesAt(one, p, week)) {
                            left.remove(p);
                        }
                        int s = p * 256 + bits(left);
                        if (met.add(s)) {
                            next.add(s);
                        }
                    }
                }
                layer = next;
            }
            return -1;
        }

        /** Week by week the least place from which the rest can still be done in time. */
        int way(Man one, int n) {
            int weeks = fewest(one, one.at, n);
            if (weeks < 0 || weeks > 9) {
                return -1;
            }
            Model m = copy();
            int at = one.at;
            int way = 0;
            for (int left = weeks - 1; left >= 0; left--) {
                Set<Integer> steps = besides(at);
                steps.add(at);
                Set<Integer> on = m.spreads(m.thought, week);
                for (int p : steps) {
                    m.thought = new TreeSet<>(on);
                    if (seesAt(one, p, week)) {
                        m.thought.remove(p);
                    }
                    if (m.fewest(one, p, left) == left) {
                        way = way * 10 + p + 1;
                        at = p;
                        break;
                    }
                }
            }
            return way;
        }

        int items(Object row) {
            return row instanceof byte[] b ? b.length : row instanceof short[] s ? s.length : ((int[]) row).length;
        }

        int item(Object row, int i) {
            return row instanceof byte[] b ? b[i] : row instanceof short[] s ? s[i] : ((int[]) row)[i];
        }

        static int sort(Object row) {
            return row instanceof byte[] ? 0 : row instanceof short[] ? 1 : 2;
        }

        Set<Integer> after(Object row, Set<Integer> from, int n) {
            Set<Integer> s = from;
            for (int i = 0; i < n; i++) {
                int number = item(row, i);
                int w = week + i + 1;
                s = spreads(s, week + i);
                s.removeIf(p -> number == -1 ? seer(p, w) != null : p != number || seer(p, w) == null);
            }
            return s;
        }

        boolean fits(Object row) {
            return !after(row, places(255), items(row)).isEmpty();
        }

        boolean isMan(int i) {
            return i >= 0 && i < men.size();
        }

        static boolean in(int v, int lo, int hi) {
            return v >= lo && v <= hi;
        }

        // ---- the calls

        int known(int of, int what) {
            switch (what) {
                case 0: return week;
                case 1: return pose;
                case 2: return duke;
                case 3: return bits(thought);
                case 4: return men.get(of).number;
                case 5: return men.get(of).at;
                case 6: return men.get(of).kind;
                default: return men.get(of).found;
            }
        }

        int set(int what, int of, int v) {
            if (!in(what, 0, 5) || what > 3 && !isMan(of)) {
                return -2;
            }
            if (!in(v, 0, new int[] {999, 9, 7, 255, 9, 7}[what])) {
                return -2;
            }
            int was = known(of, what);
            switch (what) {
                case 0: week = v; break;
                case 1: pose = v; break;
                case 2: duke = v; break;
                case 3: thought = places(v); break;
                case 4: men.get(of).number = v; break;
                default: men.get(of).at = v; break;
            }
            return was;
        }

        int lane(int a, int b, int on) {
            if (!in(a, 0, 7) || !in(b, 0, 7) || a == b || !in(on, 0, 1)) {
                return -2;
            }
            int was = lanes.contains(key(a, b)) ? 1 : 0;
            if (on == 1) {
                lanes.add(key(a, b));
            } else {
                lanes.remove(key(a, b));
            }
            return was;
        }

        int finder(int kind, int number, int on) {
            if (!in(kind, 0, 5) || !in(number, 0, 9) || !in(on, 0, 7)) {
                return -2;
            }
            if (men.size() == 5) {
                return -4;
            }
            Man m = new Man();
            m.kind = kind;
            m.number = number;
            m.at = on;
            men.add(m);
            return men.size() - 1;
        }

        int told(int of, int what) {
            if (!in(what, 0, 10) || what > 3 && what < 9 && !isMan(of) || what > 8 && !in(of, 0, 7)) {
                return -2;
            }
            if (what == 8) {
                Set<Integer> s = places(255);
                s.removeIf(p -> !seesAt(men.get(of), p, week));
                return bits(s);
            }
            if (what == 9) {
                return bits(besides(of));
            }
            return what == 10 ? bits(nexts(of, week)) : known(of, what);
        }

        int feed(int letter) {
            if (!in(letter, 0, 255)) {
                return -2;
            }
            if (tape.length() == 160) {
                return -4;
            }
            return tape.append((char) letter).length();
        }

        int text() {
            if (texts.size() == 6) {
                return -4;
            }
            String s = tape.toString();
            tape.setLength(0);
            try {
                texts.add(new Descent(s).read());
                return texts.size() - 1;
            } catch (Fault f) {
                return -100 - f.place;
            }
        }

        int force(int text) {
            if (!in(text, 0, texts.size() - 1)) {
                return -2;
            }
            int was = rule;
            rule = text;
            return was;
        }

        int spread(int set, int what) {
            if (!in(set, 0, 255) || !in(what, 0, 2)) {
                return -2;
            }
            Set<Integer> s = places(set);
            s = what == 1 ? s : spreads(s, week);
            return bits(what == 0 ? s : looks(s, week));
        }

        int week(int seed) {
            if (week == 999) {
                return -3;
            }
            int to = step(duke, week, seed * 1103515245 + 12345);
            Set<Integer> on = spreads(thought, week);
            duke = to;
            week++;
            Man m = seer(duke, week);
            if (m == null) {
                thought = looks(on, week);
                return -1;
            }
            m.found = Math.min(999, m.found + 1);
            thought = places(1 << duke);
            return men.indexOf(m);
        }

        int go(int one, int on) {
            if (!isMan(one) || !in(on, 0, 7)) {
                return -2;
            }
            int was = men.get(one).at;
            if (!besides(was).contains(on)) {
                return -3;
            }
            men.get(one).at = on;
            return was;
        }

        int run(int n, int what) {
            if (!in(n, 0, 40) || !in(what, 0, 2)) {
                return -2;
            }
            List<Integer> sizes = new ArrayList<>();
            Set<Integer> s = thought;
            for (int i = 1; i <= n; i++) {
                s = looks(spreads(s, week + i - 1), week + i);
                sizes.add(s.size());
            }
            if (what == 0) {
                return bits(s);
            }
            return what == 1 ? sizes.indexOf(0) : sizes.stream().mapToInt(k -> k).sum();
        }

        int sure(int one, int n, int what) {
            if (!isMan(one) || !in(n, 0, 40) || !in(what, 0, 1)) {
                return -2;
            }
            Man m = men.get(one);
            return what == 0 ? fewest(m, m.at, n) : way(m, n);
        }

        int stand(int one, int what) {
            if (!isMan(one) || !in(what, 0, 2)) {
                return -2;
            }
            int best = -1, least = 99, from = 0;
            for (int p = 7; p >= 0; p--) {
                int f = fewest(men.get(one), p, 40);
                if (f >= 0) {
                    from += 1 << p;
                    if (f <= least) {
                        least = f;
                        best = p;
                    }
                }
            }
            return what == 0 ? best : what == 2 ? from : best < 0 ? -1 : least;
        }

        int shut(int one, int what) {
            if (!isMan(one) || !in(what, 0, 1)) {
                return -2;
            }
            int at = men.get(one).at;
            int so = fewest(men.get(one), at, 40);
            int best = -1, least = so < 0 ? 99 : so;
            for (int code = 0; code < 78; code++) {
                if (code / 10 < code % 10 && lanes.contains(key(code / 10, code % 10))) {
                    Model m = copy();
                    m.lane(code / 10, code % 10, 0);
                    int f = m.fewest(m.men.get(one), at, 40);
                    if (f >= 0 && f < least) {
                        least = f;
                        best = code;
                    }
                }
            }
            return what == 0 ? best : least == 99 ? -1 : least;
        }

        int look(int n, int what) {
            if (!in(n, 1, 3) || !in(what, 0, 1)) {
                return -2;
            }
            int best = 0, least = 99;
            for (int b = 0; b < 256; b++) {
                Set<Integer> out = places(b);
                if (out.size() == n) {
                    Set<Integer> s = spreads(thought, week);
                    s.removeAll(out);
                    int left = spreads(s, week).size();
                    if (left < least) {
                        least = left;
                        best = b;
                    }
                }
            }
            return what == 0 ? best : least;
        }

        int tells(int sheet, int what) {
            if (!in(sheet, 0, 3) || !in(what, 0, 4)) {
                return -2;
            }
            Object row = sheets[sheet];
            if (row == null) {
                return -11;
            }
            int size = items(row);
            if (size > 30) {
                return -2;
            }
            int b = 0;
            switch (what) {
                case 0:
                    return bits(after(row, places(255), size));
                case 1:
                    for (int p = 0; p < 8; p++) {
                        b += after(row, places(1 << p), size).isEmpty() ? 0 : 1 << p;
                    }
                    return b;
                case 2:
                    for (int i = 0; i < size; i++) {
                        if (after(row, places(255), i + 1).isEmpty()) {
                            return i;
                        }
                    }
                    return -1;
                case 3:
                    for (int k = 0; k < 10; k++) {
                        Model m = copy();
                        m.pose = k;
                        b += m.fits(row) ? 1 << k : 0;
                    }
                    return b;
                default:
                    for (int k = 0; k < texts.size(); k++) {
                        Model m = copy();
                        m.rule = k;
                        b += m.fits(row) ? 1 << k : 0;
                    }
                    return b;
            }
        }

        int eyes(int sheet, int one, int what) {
            if (!in(sheet, 0, 3) || !isMan(one) || !in(what, 0, 1)) {
                return -2;
            }
            Object row = sheets[sheet];
            if (row == null) {
                return -11;
            }
            if (items(row) > 30) {
                return -2;
            }
            int b = 0;
            for (int k = 0; k < (what == 0 ? 6 : 10); k++) {
                Model m = copy();
                if (what == 0) {
                    m.men.get(one).kind = k;
                } else {
                    m.men.get(one).number = k;
                }
                b += m.fits(row) ? 1 << k : 0;
            }
            return b;
        }

        /** Where he is behind each of n weeks. */
        int[] course(int seed, int n) {
            int[] c = new int[n + 1];
            c[0] = duke;
            int z = seed;
            for (int i = 1; i <= n; i++) {
                z = z * 1103515245 + 12345;
                c[i] = step(c[i - 1], week + i - 1, z);
            }
            return c;
        }

        int film(int sheet, int seed, int n) {
            if (!in(sheet, 0, 3) || !in(n, 0, 30)) {
                return -2;
            }
            int[] c = course(seed, n);
            byte[] row = new byte[n];
            for (int i = 1; i <= n; i++) {
                row[i - 1] = (byte) (seer(c[i], week + i) == null ? -1 : c[i]);
            }
            sheets[sheet] = row;
            return n;
        }

        int drawn(int seed, int n) {
            return in(n, 0, 40) ? course(seed, n)[n] : -2;
        }

        long chance(int seed, int m, int part) {
            if (!in(m, 1, 20) || !in(part, 0, 1)) {
                return -4611686018427387904L;
            }
            int many = 0;
            for (int k = 0; k < m; k++) {
                int[] c = course(seed + k, 8);
                boolean seen = false;
                for (int i = 1; i <= 8; i++) {
                    seen |= seer(c[i], week + i) != null;
                }
                many += seen ? 1 : 0;
            }
            int d = java.math.BigInteger.valueOf(many).gcd(java.math.BigInteger.valueOf(m)).intValue();
            return part == 0 ? many / d : m / d;
        }

        int image() {
            image = copy();
            return men.size();
        }

        int back() {
            if (image == null) {
                return -3;
            }
            Model c = image.copy();
            lanes = c.lanes;
            week = c.week;
            pose = c.pose;
            duke = c.duke;
            rule = c.rule;
            thought = c.thought;
            men = c.men;
            return men.size();
        }

        int count(int what) {
            switch (what) {
                case 0: return men.size();
                case 1: return lanes.size();
                case 2: return thought.size();
                case 3: return texts.size();
                case 4: return tape.length();
                case 5: return rule;
                default: return -2;
            }
        }

        int sheet(int sheet, int sort, int n) {
            if (!in(sheet, 0, 3) || !in(sort, -1, 2)) {
                return -2;
            }
            if (sort >= 0 && n > 40) {
                return -2;
            }
            if (sort >= 0 && n < 0) {
                return -14;
            }
            sheets[sheet] = sort < 0 ? null : sort == 0 ? new byte[n] : sort == 1 ? new short[n] : new int[n];
            return 1;
        }

        int cell(int sheet, int i, int v) {
            if (!in(sheet, 0, 3)) {
                return -2;
            }
            try {
                Object row = sheets[sheet];
                if (row instanceof byte[] b) {
                    b[i] = (byte) v;
                } else if (row instanceof short[] s) {
                    s[i] = (short) v;
                } else {
                    ((int[]) row)[i] = v;
                }
                return 1;
            } catch (NullPointerException e) {
                return -11;
            } catch (IndexOutOfBoundsException e) {
                return -12;
            }
        }

        /** As the host's own copying does. */
        int copy(int sheet, int i, int other, int j, int n) {
            if (!in(sheet, 0, 3) || !in(other, 0, 3)) {
                return -2;
            }
            try {
                System.arraycopy(sheets[sheet], i, sheets[other], j, n);
                return n;
            } catch (NullPointerException e) {
                return -11;
            } catch (ArrayStoreException e) {
                return -13;
            } catch (IndexOutOfBoundsException e) {
                return -12;
            }
        }

        /** As the host's own casts and rows do. */
        int finders(int sheet, int sort, int from, int n) {
            if (!in(sheet, 0, 3) || !in(sort, 0, 2) || !in(n, 0, 5)) {
                return -2;
            }
            Object row = sheets[sheet];
            if (row != null && sort(row) != sort) {
                return -13;
            }
            if (row == null) {
                return -11;
            }
            int came = 0;
            for (int k = 0; k < n; k++) {
                long i = from + 3L * k;
                if (i < 0 || i + 2 >= items(row)) {
                    return -12;
                }
                int at = (int) i;
                came += finder(item(row, at), item(row, at + 1), item(row, at + 2)) >= 0 ? 1 : 0;
            }
            return came;
        }

        int taken(int one, int k) {
            if (!in(k, 0, 5)) {
                return -2;
            }
            if (!isMan(one)) {
                return -11;
            }
            Man m = men.get(one);
            String[] chains = {"0", "10", "20", "310", "420", "50"};
            return chains[m.kind].contains("" + k) ? m.number : -13;
        }
    }

    // ---- runs by lot

    private static int wrong;
    private static long compared;
    private final Random lot;
    private final int run;
    private DukeIsLost x = new DukeIsLost();
    private Model m = new Model();
    private int calls;
    private final List<String> log = new ArrayList<>();

    private ModelTests(int run) {
        this.run = run;
        lot = new Random(run * 7919L + 13);
    }

    private void same(String call, long got, long want) {
        calls++;
        compared++;
        log.add(call + " -> " + got);
        if (got != want) {
            wrong++;
            if (wrong < 10) {
                System.out.println("run " + run + ", call " + calls + ": " + call + " answered " + got + ", the model "
                        + want + "; ahead of it: " + log.subList(Math.max(0, log.size() - 12), log.size()));
            }
        }
    }

    /** Mostly lo .. hi, now and then beside it or far off. */
    private int near(int lo, int hi) {
        int d = lot.nextInt(60);
        if (d == 0) {
            return lo - 1;
        }
        if (d == 1) {
            return hi + 1;
        }
        if (d == 2) {
            return new int[] {Integer.MIN_VALUE, Integer.MAX_VALUE, -1000, 1000, 1 << 30}[lot.nextInt(5)];
        }
        return lo + lot.nextInt(hi - lo + 1);
    }

    private int man() {
        return m.men.isEmpty() ? near(0, 4) : near(0, m.men.size() - 1);
    }

    private String expression(int depth) {
        String[] atoms = {"place", "to", "week", "number", "ways", "pose", "0", "1", "2", "3", "5", "7"};
        if (depth == 0 || lot.nextInt(5) == 0) {
            return atoms[lot.nextInt(atoms.length)];
        }
        String a = expression(depth - 1);
        String b = expression(depth - 1);
        switch (lot.nextInt(11)) {
            case 0: return a + "+" + b;
            case 1: return a + "-" + b;
            case 2: return a + "*" + b;
            case 3: return a + "<" + b;
            case 4: return a + " = " + b;
            case 5: return a + " or " + b;
            case 6: return a + " and\n" + b;
            case 7: return "not " + a;
            case 8: return "-" + a;
            case 9: return "(" + a + ")";
            default: return "(" + a + ")<(" + b + ")";
        }
    }

    /** A text by lot, at times spoilt by a byte. */
    private String wording() {
        StringBuilder s = new StringBuilder();
        s.append("goes ").append(expression(lot.nextInt(4))).append(";stays ").append(expression(lot.nextInt(4)));
        s.append(";sees ").append(expression(lot.nextInt(4))).append(";");
        if (lot.nextInt(4) == 0) {
            int i = lot.nextInt(s.length());
            switch (lot.nextInt(3)) {
                case 0:
                    s.deleteCharAt(i);
                    break;
                case 1:
                    s.insert(i, "();+-*<= 12not$a\t".charAt(lot.nextInt(17)));
                    break;
                default:
                    s.setLength(i);
                    break;
            }
        }
        return s.toString();
    }

    private void write() {
        String s = wording();
        if (s.length() > 160 || calls + s.length() > CALLS - 20) {
            return;
        }
        for (int i = 0; i < s.length(); i++) {
            same("feed(" + (int) s.charAt(i) + ")", x.feed(s.charAt(i)), m.feed(s.charAt(i)));
        }
        same("text() of " + s, x.text(), m.text());
        int k = near(0, m.texts.size() - 1);
        same("force(" + k + ")", x.force(k), m.force(k));
    }

    private void lay() {
        int lanes = lot.nextInt(11);
        for (int i = 0; i < lanes; i++) {
            int a = near(0, 7), b = near(0, 7), on = near(0, 1) | 1;
            same("lane(" + a + "," + b + "," + on + ")", x.lane(a, b, on), m.lane(a, b, on));
        }
        int men = lot.nextInt(6);
        for (int i = 0; i < men; i++) {
            int k = near(0, 5), n = near(0, 9), p = near(0, 7);
            same("finder(" + k + "," + n + "," + p + ")", x.finder(k, n, p), m.finder(k, n, p));
        }
    }

    /** A row or tree of places with few lanes more, where one can be sure at times. */
    private void layTree() {
        int size = 2 + lot.nextInt(7);
        for (int p = 1; p < size; p++) {
            int to = lot.nextInt(3) > 0 ? p - 1 : lot.nextInt(p);
            same("lane(" + p + "," + to + ",1)", x.lane(p, to, 1), m.lane(p, to, 1));
        }
        if (lot.nextInt(3) == 0) {
            int a = lot.nextInt(size), b = lot.nextInt(size);
            same("lane(" + a + "," + b + ",1)", x.lane(a, b, 1), m.lane(a, b, 1));
        }
        for (int i = 0; i < 2; i++) {
            int kind = lot.nextInt(5), at = lot.nextInt(size);
            same("finder(" + kind + ",3," + at + ")", x.finder(kind, 3, at), m.finder(kind, 3, at));
        }
        int set = (1 << size) - 1;
        same("set(3,0," + set + ")", x.set(3, 0, set), m.set(3, 0, set));
        for (int f = 0; f < 2; f++) {
            for (int what = 0; what < 2; what++) {
                same("sure(" + f + ",40," + what + ")", x.sure(f, 40, what), m.sure(f, 40, what));
                same("shut(" + f + "," + what + ")", x.shut(f, what), m.shut(f, what));
                same("look(" + (f + 1) + "," + what + ")", x.look(f + 1, what), m.look(f + 1, what));
            }
            for (int what = 0; what < 3; what++) {
                same("stand(" + f + "," + what + ")", x.stand(f, what), m.stand(f, what));
            }
        }
    }

    private void film() {
        int s = near(0, 3), seed = lot.nextInt(), n = near(0, 30);
        same("film(" + s + "," + seed + "," + n + ")", x.film(s, seed, n), m.film(s, seed, n));
        if (s < 0 || s > 3) {
            return;
        }
        if (lot.nextInt(3) == 0) {
            int i = near(0, 5), v = near(-1, 7);
            same("cell(" + s + "," + i + "," + v + ")", x.cell(s, i, v), m.cell(s, i, v));
        }
        for (int what = 0; what < 5; what++) {
            same("tells(" + s + "," + what + ")", x.tells(s, what), m.tells(s, what));
        }
        int f = man();
        for (int what = 0; what < 2; what++) {
            same("eyes(" + s + "," + f + "," + what + ")", x.eyes(s, f, what), m.eyes(s, f, what));
        }
    }

    private void row() {
        int s = near(0, 3), sort = near(-1, 2), n = near(0, lot.nextBoolean() ? 9 : 40);
        same("sheet(" + s + "," + sort + "," + n + ")", x.sheet(s, sort, n), m.sheet(s, sort, n));
        for (int i = 0; i < 6; i++) {
            int v = lot.nextInt(4) == 0 ? near(-1, 9) : near(0, 5) + 256 * lot.nextInt(2) * lot.nextInt(258);
            int at = near(0, 8);
            same("cell(" + s + "," + at + "," + v + ")", x.cell(s, at, v), m.cell(s, at, v));
        }
        int o = near(0, 3), i = near(0, 8), j = near(0, 8), k = near(0, 5);
        same("copy(" + s + "," + i + "," + o + "," + j + "," + k + ")", x.copy(s, i, o, j, k), m.copy(s, i, o, j, k));
        int what = near(0, 4);
        same("tells(" + s + "," + what + ")", x.tells(s, what), m.tells(s, what));
        int as = lot.nextInt(3) == 0 ? near(0, 2) : sort, from = near(0, 6), many = near(0, 5);
        same("finders(" + o + "," + as + "," + from + "," + many + ")", x.finders(o, as, from, many),
                m.finders(o, as, from, many));
    }

    private void change() {
        int what = near(0, 5);
        int[] most = {999, 9, 7, 255, 9, 7};
        int f = man();
        int v = what == 0 && lot.nextBoolean() ? lot.nextInt(9) : near(0, what >= 0 && what < 6 ? most[what] : 9);
        same("set(" + what + "," + f + "," + v + ")", x.set(what, f, v), m.set(what, f, v));
    }

    private void sure() {
        int f = man(), n = lot.nextBoolean() ? 40 : near(0, 40), what = near(0, 1), w3 = near(0, 2);
        same("sure(" + f + "," + n + "," + what + ")", x.sure(f, n, what), m.sure(f, n, what));
        if (lot.nextInt(4) == 0) {
            same("stand(" + f + "," + w3 + ")", x.stand(f, w3), m.stand(f, w3));
        }
        if (lot.nextInt(6) == 0) {
            same("shut(" + f + "," + what + ")", x.shut(f, what), m.shut(f, what));
        }
    }

    private void ask() {
        int of = near(0, 7), what = near(0, 10), set = near(0, 255), w3 = near(0, 2), n = near(0, 40);
        same("told(" + of + "," + what + ")", x.told(of, what), m.told(of, what));
        same("spread(" + set + "," + w3 + ")", x.spread(set, w3), m.spread(set, w3));
        same("run(" + n + "," + w3 + ")", x.run(n, w3), m.run(n, w3));
        same("count(" + w3 + ")", x.count(w3 + 3), m.count(w3 + 3));
        int f = man(), k = near(0, 5), seed = lot.nextInt(), part = near(0, 1), many = near(1, 20);
        same("taken(" + f + "," + k + ")", x.taken(f, k), m.taken(f, k));
        same("drawn(" + seed + "," + n + ")", x.drawn(seed, n), m.drawn(seed, n));
        same("chance(" + seed + "," + many + "," + part + ")", x.chance(seed, many, part), m.chance(seed, many, part));
        int looks = near(1, 3);
        if (lot.nextInt(4) == 0) {
            same("look(" + looks + "," + part + ")", x.look(looks, part), m.look(looks, part));
        }
    }

    private void move() {
        int seed = near(Integer.MIN_VALUE / 4, Integer.MAX_VALUE / 4), f = man(), to = near(0, 7);
        same("week(" + seed + ")", x.week(seed), m.week(seed));
        same("go(" + f + "," + to + ")", x.go(f, to), m.go(f, to));
        int what = near(0, 3);
        same("told(0," + what + ")", x.told(0, what), m.told(0, what));
        same("told(" + f + ",7)", x.told(f, 7), m.told(f, 7));
    }

    /** All that can be told of the state. */
    private void compareAll() {
        for (int what = 0; what < 11; what++) {
            for (int of = 0; of < (what < 4 ? 1 : 8); of++) {
                same("told(" + of + "," + what + ")", x.told(of, what), m.told(of, what));
            }
        }
        for (int what = 0; what < 6; what++) {
            same("count(" + what + ")", x.count(what), m.count(what));
        }
    }

    private void play() {
        if (run % 3 == 0) {
            layTree();
        } else {
            lay();
        }
        if (lot.nextInt(3) > 0) {
            write();
        }
        while (calls < CALLS - 80) {
            switch (lot.nextInt(14)) {
                case 0: if (lot.nextInt(4) == 0) { write(); } break;
                case 1: if (lot.nextInt(4) == 0) { lay(); } break;
                case 2: film(); break;
                case 3: row(); break;
                case 4: case 5: change(); break;
                case 6: sure(); break;
                case 7: case 8: ask(); break;
                case 9: case 10: case 11: move(); break;
                case 12: same("image()", x.image(), m.image()); break;
                default: same("back()", x.back(), m.back()); break;
            }
        }
        compareAll();
    }

    public static void main(String[] args) {
        int runs = args.length > 0 ? Integer.parseInt(args[0]) : RUNS;
        int first = args.length > 1 ? Integer.parseInt(args[1]) : 0;
        for (int run = first; run < first + runs && wrong < 10; run++) {
            new ModelTests(run).play();
        }
        System.out.println(wrong == 0 ? compared + " answers are as the model's" : wrong + " answers are not as the model's");
        if (wrong != 0) {
            System.exit(1);
        }
    }
}
