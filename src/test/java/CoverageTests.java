import java.io.IOException;
import java.nio.file.Files;
import java.nio.file.Path;
import java.util.ArrayList;
import java.util.BitSet;
import java.util.LinkedHashMap;
import java.util.List;
import java.util.Map;
import java.util.TreeSet;
import java.util.regex.Matcher;
import java.util.regex.Pattern;
import java.util.stream.Stream;

// Each test of a sentence tells words that stand in the document under its heading; and each word
// of the document that marks a boundary case stands in the words of some test.
public final class CoverageTests {
    private static final Pattern TEST =
            Pattern.compile("@Holds\\(((?:[^\"]|\"(?:[^\"\\\\]|\\\\.)*\")*?)\\)\\s+static void (\\w+)\\(");
    private static final Pattern STRING = Pattern.compile("\"((?:[^\"\\\\]|\\\\.)*)\"");
    // What marks a boundary case: refusals, limits, ties, wrap-arounds, what is empty or none.
    private static final Pattern MARK = Pattern.compile(
            "\\b(BAD|STATE|FULL|NONE|NO)\\b|-1[1-4]\\b|-1:|\\.\\.|at most|at first|modulo|of like ones"
            + "|wrapping|n't matter|not matter|an int\\b|never|neither|too early|too long|begins none|may pass"
            + "|if none|above|below|lowest|at once|while 5|\\bnone\\b|alone|empty|left out|as they were|>>>"
            + "|1 more|the first|isn't|no such|else 0|in order|change nothing|all 0|missing");

    private static int wrong;

    private static void tell(String fault) {
        wrong++;
        System.out.println(fault);
    }

    /** The text under each heading, by the beginning of test names: whatItIs, terms, promise7. */
    private static Map<String, String> sections() throws IOException {
        Map<String, String> sections = new LinkedHashMap<>();
        for (String part : Files.readString(Path.of("../shared/DOC.md")).split("(?m)^## ")) {
            int end = part.indexOf('\n');
            if (end < 0) {
                continue;
            }
            String head = part.substring(0, end).trim();
            Matcher promise = Pattern.compile("Promise (\\d+): .*").matcher(head);
            if (promise.matches()) {
                sections.put("promise" + promise.group(1), part.substring(end));
            } else if (head.equals("Terms")) {
                sections.put("terms", part.substring(end));
            } else if (head.equals("What it is")) {
                sections.put("whatItIs", part.substring(end));
            }
        }
        return sections;
    }

    private static List<Path> tests() throws IOException {
        try (Stream<Path> files = Files.list(Path.of("src/test/java"))) {
            List<Path> found = new ArrayList<>();
            files.filter(f -> f.getFileName().toString().endsWith("Sentences.java")).sorted().forEach(found::add);
            return found;
        }
    }

    private static String joined(String literals) {
        StringBuilder s = new StringBuilder();
        Matcher m = STRING.matcher(literals);
        while (m.find()) {
            s.append(m.group(1).replace("\\\"", "\"").replace("\\\\", "\\"));
        }
        return s.toString();
    }

    private static void mark(String name, String words, Map<String, String> sections, Map<String, BitSet> held) {
        String of = name.substring(0, Math.max(0, name.indexOf('_')));
        String text = sections.get(of);
        if (text == null) {
            tell(name + " names no section of the document");
            return;
        }
        int at = text.indexOf(words);
        if (words.isEmpty() || at < 0) {
            tell(name + ": [" + words + "] doesn't stand under its heading");
            return;
        }
        if (text.indexOf(words, at + 1) >= 0) {
            tell(name + ": [" + words + "] stands there more than once");
        }
        held.computeIfAbsent(of, k -> new BitSet()).set(at, at + words.length());
    }

    private static void lookForMarks(String of, String text, BitSet held) {
        int begin = of.startsWith("promise") ? text.indexOf("`:") : 0;
        Matcher m = MARK.matcher(text);
        while (m.find()) {
            boolean isHeld = held.get(m.start());
            boolean isHeading = m.start() < begin || text.startsWith("Ahead of the calls", lineOf(text, m.start()));
            if (!isHeld && !isHeading) {
                String near = text.substring(Math.max(0, m.start() - 40), Math.min(text.length(), m.end() + 40));
                tell(of + ": no test tells '" + m.group() + "' in [" + near.replace('\n', ' ') + "]");
            }
        }
    }

    private static int lineOf(String text, int at) {
        return text.lastIndexOf('\n', at) + 1;
    }

    public static void main(String[] args) throws IOException {
        Map<String, String> sections = sections();
        Map<String, BitSet> held = new LinkedHashMap<>();
        TreeSet<String> names = new TreeSet<>();
        for (Path file : tests()) {
            Matcher m = TEST.matcher(Files.readString(file));
            while (m.find()) {
                if (!names.add(m.group(2))) {
                    tell(m.group(2) + " is the name of two tests");
                }
                mark(m.group(2), joined(m.group(1)), sections, held);
            }
        }
        for (int i = 1; i <= 29; i++) {
            if (!sections.containsKey("promise" + i)) {
                tell("the document has no promise " + i);
            }
        }
        for (String of : sections.keySet()) {
            lookForMarks(of, sections.get(of), held.getOrDefault(of, new BitSet()));
            if (!held.containsKey(of)) {
                tell("no test of " + of);
            }
        }
        System.out.println(names.size() + " tests of sentences, " + wrong + " words wrong or not held");
        if (wrong != 0) {
            System.exit(1);
        }
    }
}
