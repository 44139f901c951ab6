import java.io.IOException;
import java.lang.reflect.Method;
import java.net.URL;
import java.net.URLClassLoader;
import java.nio.file.Files;
import java.nio.file.Path;
import java.util.ArrayList;
import java.util.List;
import java.util.regex.Matcher;
import java.util.regex.Pattern;
import java.util.stream.Stream;
import javax.tools.JavaCompiler;
import javax.tools.ToolProvider;

// What README.md shows holds: its Java compiles as it stands, each call answers the number behind it,
// and each call of the face and each test of the project stands there.
public final class ReadmeTests extends Bench {
    private static final String SHOWN = "ShownByReadme";
    private static final Pattern BLOCK = Pattern.compile("(?ms)^```java\n(.*?)^```$");
    private static final Pattern ROW = Pattern.compile("(x\\.(\\w+)\\([^;]*\\));\\s+// (-?\\d+)(?::.*)?");

    private static List<String> blocks(String readme) {
        List<String> found = new ArrayList<>();
        Matcher m = BLOCK.matcher(readme);
        while (m.find()) {
            found.add(m.group(1));
        }
        return found;
    }

    /** A class whose rows() adds what each shown call answers, in order. */
    private static String sourceOf(List<String> blocks) {
        StringBuilder s = new StringBuilder("public class " + SHOWN + " {\n");
        s.append("public static void rows(java.util.List<Long> got) {\n");
        for (String block : blocks) {
            s.append("{\n");
            for (String line : block.split("\n")) {
                Matcher m = ROW.matcher(line);
                s.append(m.matches() ? "got.add((long) " + m.group(1) + ");" : line).append('\n');
            }
            s.append("}\n");
        }
        return s.append("}\n}\n").toString();
    }

    private static List<Long> answers(List<String> blocks) throws Exception {
        Path out = Files.createTempDirectory("readme");
        try {
            Path file = out.resolve(SHOWN + ".java");
            Files.writeString(file, sourceOf(blocks));
            JavaCompiler javac = ToolProvider.getSystemJavaCompiler();
            String classes = System.getProperty("java.class.path");
            int code = javac.run(null, System.out, System.out, "-cp", classes, "-d", out.toString(), file.toString());
            due("README.md's rows compile: exit code", code, 0);
            List<Long> got = new ArrayList<>();
            if (code == 0) {
                try (URLClassLoader loader = new URLClassLoader(new URL[] {out.toUri().toURL()})) {
                    loader.loadClass(SHOWN).getMethod("rows", List.class).invoke(null, got);
                }
            }
            return got;
        } finally {
            for (Path p : filesOf(out)) {
                Files.delete(p);
            }
            Files.delete(out);
        }
    }

    private static List<Path> filesOf(Path folder) throws IOException {
        try (Stream<Path> files = Files.list(folder)) {
            List<Path> found = new ArrayList<>();
            files.sorted().forEach(found::add);
            return found;
        }
    }

    /** Each row answers what it tells; which calls there are rows of. */
    private static List<String> rows(String readme) throws Exception {
        List<String> blocks = blocks(readme);
        List<Long> got = answers(blocks);
        List<String> names = new ArrayList<>();
        for (String block : blocks) {
            for (String line : block.split("\n")) {
                Matcher m = ROW.matcher(line);
                if (m.matches() && names.size() < got.size()) {
                    due("README.md: " + m.group(1), got.get(names.size()), Long.parseLong(m.group(3)));
                    names.add(m.group(2));
                } else {
                    // A row that isn't read as one would go untested.
                    due("README.md: '" + line + "' tells no answer: 0", line.contains("//") ? 1 : 0, 0);
                }
            }
        }
        due("rows that were run and told", names.size(), got.size());
        return names;
    }

    private static void allNamed(String readme, List<String> shown) throws IOException {
        for (Method m : DukeIsLost.class.getDeclaredMethods()) {
            boolean isPublic = java.lang.reflect.Modifier.isPublic(m.getModifiers());
            // feed() is shown in a loop, so it is no row.
            boolean isShown = shown.contains(m.getName()) || readme.contains("x." + m.getName() + "(c);");
            due("README.md shows " + m.getName() + "(): 1", !isPublic || isShown ? 1 : 0, 1);
        }
        for (Path file : filesOf(Path.of("src/test/java"))) {
            String name = file.getFileName().toString().replace(".java", "");
            due("README.md tells of " + name + ": 1", readme.contains("`" + name + "`") ? 1 : 0, 1);
        }
        due("README.md tells of .ci/run: 1", readme.contains("`.ci/run`") ? 1 : 0, 1);
    }

    public static void main(String[] args) throws Exception {
        String readme = Files.readString(Path.of("README.md"));
        List<String> shown = rows(readme);
        allNamed(readme, shown);
        end("README.md");
    }
}
