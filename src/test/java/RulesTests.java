import java.lang.management.ManagementFactory;
import java.lang.reflect.Array;
import java.lang.reflect.Constructor;
import java.lang.reflect.Field;
import java.lang.reflect.Method;
import java.lang.reflect.Modifier;
import java.nio.file.Files;
import java.nio.file.Path;
import java.util.ArrayDeque;
import java.util.Arrays;
import java.util.Collections;
import java.util.Deque;
import java.util.IdentityHashMap;
import java.util.Set;
import java.util.TreeSet;
import java.util.regex.Matcher;
import java.util.regex.Pattern;

// The rules of LANGUAGE.md that can be seen from outside: the face, the words of the source,
// what an object takes, and that calls make nothing.
public final class RulesTests {
    private static final int[] EDGES = {Integer.MIN_VALUE, Integer.MIN_VALUE + 1, -1000, -2, -1, 0, 1, 2, 3, 5, 7, 8,
        9, 10, 30, 31, 40, 41, 160, 255, 256, 999, 1000, 1 << 30, Integer.MAX_VALUE - 1, Integer.MAX_VALUE};
    private static int wrong;

    private static void due(String what, Object got, Object want) {
        if (!got.equals(want)) {
            wrong++;
            System.out.println(what + ": " + got + ", due is " + want);
        }
    }

    private static void dueAtMost(String what, long got, long most) {
        if (got > most) {
            wrong++;
            System.out.println(what + ": " + got + ", at most " + most + " is due");
        }
    }

    private static String shape(Method m) {
        StringBuilder s = new StringBuilder(m.getReturnType().getName()).append(' ').append(m.getName());
        for (Class<?> c : m.getParameterTypes()) {
            s.append(' ').append(c.getName());
        }
        return s.toString();
    }

    private static void face() throws Exception {
        String ints = "set3 lane3 finder3 told2 feed1 text0 force1 spread2 week1 go2 run2 sure3 stand2 shut2 look2 "
                + "tells2 eyes3 film3 drawn2 image0 back0 count1 sheet3 cell3 copy5 finders4 taken2";
        Set<String> want = new TreeSet<>();
        for (String s : ints.split(" ")) {
            int many = s.charAt(s.length() - 1) - '0';
            want.add("int " + s.substring(0, s.length() - 1) + " int".repeat(many));
        }
        want.add("long chance int int int");
        Set<String> got = new TreeSet<>();
        Set<String> names = new TreeSet<>();
        for (Method m : DukeIsLost.class.getDeclaredMethods()) {
            if (!Modifier.isPrivate(m.getModifiers())) {
                due(m.getName() + " is public", Modifier.isPublic(m.getModifiers()), true);
                got.add(shape(m));
                names.add(m.getName());
            }
        }
        due("the methods", got, want);
        ownClasses(DukeIsLost.class, names);
        due("the class", Modifier.toString(DukeIsLost.class.getModifiers()), "public final");
        Constructor<?>[] constructors = DukeIsLost.class.getDeclaredConstructors();
        due("constructors", constructors.length, 1);
        due("public", Modifier.isPublic(constructors[0].getModifiers()), true);
        due("its parameters", constructors[0].getParameterCount(), 0);
        Set<String> constants = new TreeSet<>();
        for (Field f : DukeIsLost.class.getDeclaredFields()) {
            if (!Modifier.isPrivate(f.getModifiers())) {
                constants.add(f.getName());
            }
            if (Modifier.isStatic(f.getModifiers())) {
                due(f.getName() + " is final", Modifier.isFinal(f.getModifiers()), true);
            }
        }
        due("the constants", constants, new TreeSet<>(Arrays.asList("NONE", "BAD", "STATE", "FULL", "NO")));
    }

    /** No method of a class inside bears a public name; all are static and not public. */
    private static void ownClasses(Class<?> of, Set<String> names) {
        dueAtMost("classes", of.getDeclaredClasses().length, 12);
        for (Method m : of.getDeclaredMethods()) {
            if (Modifier.isPrivate(m.getModifiers())) {
                due(m.getName() + " bears a public name", names.contains(m.getName()), false);
            }
            dueAtMost("parameters of " + m.getName(), m.getParameterCount(), 7);
        }
        for (Class<?> c : of.getDeclaredClasses()) {
            due(c.getName() + " is static", Modifier.isStatic(c.getModifiers()), true);
            due(c.getName() + " is public", Modifier.isPublic(c.getModifiers()), false);
            dueAtMost("fields of " + c.getName(), c.getDeclaredFields().length, 20);
            for (Method m : c.getDeclaredMethods()) {
                due(c.getName() + "." + m.getName() + " bears a public name", names.contains(m.getName()), false);
                dueAtMost("parameters of " + m.getName(), m.getParameterCount(), 7);
            }
        }
    }

    private static void words() throws Exception {
        String source = Files.readString(Path.of("src/main/java/DukeIsLost.java"));
        String code = source.replaceAll("(?s)/\\*.*?\\*/", " ").replaceAll("//[^\n]*", " ");
        String[] out = {"throw", "throws", "try", "catch", "synchronized", "assert", "package", "equals", "hashCode",
            "toString", "System\\.(?!arraycopy)", "Random", "Thread", "Object", "->", "::", "instanceof", "Exact\\b",
            "abstract", "volatile", "native", "double", "float", "import (?!java\\.util\\.Arrays;)"};
        for (String word : out) {
            String pattern = Character.isLetter(word.charAt(0)) ? "\\b" + word : word;
            pattern = word.matches("[a-z]+") ? "\\b" + word + "\\b" : pattern;
            Matcher m = Pattern.compile(pattern).matcher(code);
            due("the source holds " + word, m.find(), false);
        }
        for (char c : source.toCharArray()) {
            if (c > 126) {
                due("a sign of the source", (int) c, "at most 126");
            }
        }
        due("public classes", code.split("\\bclass\\b", -1).length - 1, 1 + DukeIsLost.class.getDeclaredClasses().length);
    }

    /** A method begins in a line that ends in ") {", and ends with a brace as far in as that line. */
    private static void lengths() throws Exception {
        String[] lines = Files.readString(Path.of("src/main/java/DukeIsLost.java")).split("\n");
        Pattern head = Pattern.compile("( {4}| {8})\\w.*\\) \\{");
        int methods = 0;
        for (int i = 0; i < lines.length; i++) {
            Matcher m = head.matcher(lines[i]);
            if (m.matches() && !lines[i].matches(" *(if|for|while|switch)\\b.*")) {
                int last = i;
                while (last < lines.length && !lines[last].equals(m.group(1) + "}")) {
                    last++;
                }
                dueAtMost("lines of '" + lines[i].trim() + "'", last - i + 1, 60);
                methods++;
            }
        }
        int declared = methodsOf(DukeIsLost.class);
        for (Class<?> c : DukeIsLost.class.getDeclaredClasses()) {
            declared += methodsOf(c);
        }
        due("methods whose lines were counted", methods, declared);
    }

    /** Its methods and those constructors that are written out. */
    private static int methodsOf(Class<?> of) throws Exception {
        String source = Files.readString(Path.of("src/main/java/DukeIsLost.java"));
        String head = "(?m)^ +(public )?" + of.getSimpleName() + "\\(.*\\) \\{$";
        int constructors = (int) Pattern.compile(head).matcher(source).results().count();
        return of.getDeclaredMethods().length + constructors;
    }

    /** Objects and arrays that hang on a new one, and their fields and elements. */
    private static void room() throws Exception {
        Deque<Object> open = new ArrayDeque<>();
        Set<Object> met = Collections.newSetFromMap(new IdentityHashMap<>());
        Object first = new DukeIsLost();
        open.add(first);
        met.add(first);
        long inside = 0;
        while (!open.isEmpty()) {
            Object o = open.remove();
            if (o.getClass().isArray()) {
                inside += Array.getLength(o);
                if (!o.getClass().getComponentType().isPrimitive()) {
                    for (Object e : (Object[]) o) {
                        if (e != null && met.add(e)) {
                            open.add(e);
                        }
                    }
                }
                continue;
            }
            for (Field f : o.getClass().getDeclaredFields()) {
                if (Modifier.isStatic(f.getModifiers())) {
                    continue;
                }
                inside++;
                f.setAccessible(true);
                Object e = f.getType().isPrimitive() ? null : f.get(o);
                if (e != null && met.add(e)) {
                    open.add(e);
                }
            }
        }
        dueAtMost("objects of a new one", met.size(), 100);
        dueAtMost("fields and elements of a new one", inside, 7000);
        System.out.println("a new one takes " + met.size() + " objects and arrays, " + inside + " fields and elements");
    }

    /** Every call with edges for arguments, in an empty duchy and in a full one: none throws. */
    private static void noneThrows() {
        DukeIsLost empty = new DukeIsLost();
        DukeIsLost full = new DukeIsLost();
        for (int a = 0; a < 8; a++) {
            for (int b = a + 1; b < 8; b++) {
                full.lane(a, b, 1);
            }
            full.finder(a % 6, a, a);
            full.sheet(a % 4, a % 3, 30 + a);
        }
        full.image();
        for (int a : EDGES) {
            for (int b : EDGES) {
                for (int c : EDGES) {
                    callAll(empty, a, b, c);
                }
                callAll(full, a, b, EDGES[(a & 15) + (b & 7)]);
            }
        }
    }

    private static void callAll(DukeIsLost x, int a, int b, int c) {
        x.set(a, b, c);
        x.lane(a, b, c);
        x.finder(a, b, c);
        x.told(a, b);
        x.feed(a);
        x.force(a);
        x.spread(a, b);
        x.week(a);
        x.go(a, b);
        x.run(a, b);
        x.sure(a, b, c);
        x.look(a, b);
        x.tells(a, b);
        x.eyes(a, b, c);
        x.film(a, b, c);
        x.drawn(a, b);
        x.chance(a, b, c);
        x.count(a);
        x.sheet(a, b, c);
        x.cell(a, b, c);
        x.copy(a, b, c, a, b);
        x.copy(a & 3, b, c & 3, a, c);
        x.finders(a, b, c, a);
        x.finders(a & 3, b & 3, c, 5);
        x.taken(a, b);
        if (a == c) {
            x.stand(a, b);
            x.shut(a, b);
            x.text();
            x.image();
            x.back();
        }
    }

    /** Once all is made, calls make nothing more. */
    private static void nothingMade() {
        com.sun.management.ThreadMXBean bean = (com.sun.management.ThreadMXBean) ManagementFactory.getThreadMXBean();
        DukeIsLost x = new DukeIsLost();
        long id = Thread.currentThread().getId();
        bean.getThreadAllocatedBytes(id);
        long ahead = bean.getThreadAllocatedBytes(id);
        long idle = bean.getThreadAllocatedBytes(id) - ahead;
        ahead = bean.getThreadAllocatedBytes(id);
        for (int i = 0; i < 200; i++) {
            callAll(x, i % 9, i % 5, i % 7);
        }
        dueAtMost("bytes made by 6000 calls", bean.getThreadAllocatedBytes(id) - ahead - idle, 4096);
    }

    public static void main(String[] args) throws Exception {
        face();
        words();
        lengths();
        room();
        noneThrows();
        nothingMade();
        System.out.println(wrong == 0 ? "all rules hold" : wrong + " rules don't hold");
        if (wrong != 0) {
            System.exit(1);
        }
    }
}
