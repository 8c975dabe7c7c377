import java.io.IOException;
import java.nio.file.Files;
import java.nio.file.Path;
import java.util.ArrayDeque;
import java.util.ArrayList;
import java.util.Deque;
import java.util.HashMap;
import java.util.List;
import java.util.Map;
import java.util.Set;
import java.util.regex.Matcher;
import java.util.regex.Pattern;

/** What can be read off the source of the rules of LANGUAGE.md; their numbers stand behind each. */
public final class LanguageTest {
    private static final int MOST_CLASSES = 12;
    private static final int MOST_FIELDS = 20;
    private static final int MOST_PARAMETERS = 7;
    private static final int MOST_LINES = 60;
    private static final int DEEPEST_CALLS = 8;

    private static final String[] RULED_OUT = {
        "->", "::", "\\bfinally\\b", "\\bsynchronized\\b", "\\bassert\\b", "\\bpackage\\b", "\\btry\\b",
        "\\bObject\\b", "Exact\\b", "\\bstatic\\s*\\{", "import (?!java\\.util\\.(Arrays|NoSuchElementException);)",
        "\\b(System|Thread|Random|Runtime)\\b", "\\b(equals|hashCode|toString)\\b", "\\bArrays\\.(?!fill\\()",
        "\\bnull\\b", "\\b(double|float)\\b", "[^ -~\\n]", "\\bthrow (?!new (IllegalArgumentException"
                + "|ArithmeticException|NoSuchElementException)\\(\\);)",
    };

    private static final Pattern CLASS = Pattern.compile(" *(?:public |private |static |final )*class (\\w+) \\{");
    private static final Pattern FIELD = Pattern.compile(" *private ((?:static )?)(?:final )?[\\w\\[\\]]+ \\w+(?: = .*)?;");
    private static final Pattern METHOD =
            Pattern.compile("( *)(?:public |private |static )*(?:\\w+ )?(\\w+)\\((.*)\\)(?: throws \\w+)? \\{");
    private static final Pattern CALL = Pattern.compile("(new )?(?:\\b(\\w+)\\.)?\\b(\\w+)\\(");
    private static final Set<String> NO_CALLS = Set.of("if", "for", "while", "switch");
    private static final Map<String, String> HOLDERS = Map.of("bins", "Bins", "line", "Line", "trees", "Trees");

    private final Map<String, Integer> fields = new HashMap<>();
    private final Map<String, List<String>> calls = new HashMap<>();
    private final Deque<String> open = new ArrayDeque<>();

    public static void main(String[] args) throws IOException {
        String text = Files.readString(Path.of("src/main/java/BinMap.java"));
        String code = text.replaceAll("(?s)/\\*.*?\\*/", "").replaceAll("//.*", "");
        for (String each : RULED_OUT) {
            Due.holds("the source has no " + each, !Pattern.compile(each).matcher(code).find());
        }
        LanguageTest test = new LanguageTest();
        test.read(code.split("\n"));
        test.sizes();
        test.depths();
        Due.finish("LanguageTest");
    }

    /** Relies on the form of the file: a header in one line, the end of a method as far in as that. */
    private void read(String[] lines) {
        String inClass = "";
        for (int i = 0; i < lines.length; i++) {
            Matcher header = METHOD.matcher(lines[i]);
            Matcher aClass = CLASS.matcher(lines[i]);
            Matcher field = FIELD.matcher(lines[i]);
            if (aClass.matches()) {
                inClass = aClass.group(1);
                fields.put(inClass, 0);
            } else if (field.matches() && field.group(1).isEmpty()) {
                fields.merge(inClass, 1, Integer::sum);
            } else if (header.matches() && !NO_CALLS.contains(header.group(2))) {
                i = method(lines, i, inClass, header);
            }
        }
    }

    /** Answers the line of the method's end. */
    private int method(String[] lines, int start, String inClass, Matcher header) {
        String name = inClass + "." + header.group(2);
        Due.holds(name + " is the only one of its name", !calls.containsKey(name));
        List<String> called = new ArrayList<>();
        calls.put(name, called);
        int parameters = header.group(3).isEmpty() ? 0 : header.group(3).split(",").length;
        Due.holds("11: " + name + " takes " + parameters, parameters <= MOST_PARAMETERS);
        int end = start + 1;
        while (end < lines.length && !lines[end].equals(header.group(1) + "}")) {
            callsOf(lines[end], inClass, called);
            end++;
        }
        Due.holds("11: " + name + " has " + (end - start + 1) + " lines", end - start < MOST_LINES);
        return end;
    }

    private static void callsOf(String line, String inClass, List<String> called) {
        Matcher matcher = CALL.matcher(line);
        while (matcher.find()) {
            String holder = matcher.group(2);
            String name = matcher.group(3);
            if (matcher.group(1) != null) {
                called.add(name + "." + name);
            } else if (!NO_CALLS.contains(name)) {
                String owner = holder == null ? inClass : HOLDERS.getOrDefault(holder, holder);
                called.add(owner + "." + name);
            }
        }
    }

    private void sizes() {
        Due.holds("11: classes are " + fields.keySet(), fields.size() <= MOST_CLASSES);
        Due.holds("the classes were read", fields.keySet().containsAll(HOLDERS.values()));
        for (Map.Entry<String, Integer> each : fields.entrySet()) {
            Due.holds("11: fields of " + each, each.getValue() > 0 && each.getValue() <= MOST_FIELDS);
        }
    }

    private void depths() {
        for (String each : calls.keySet()) {
            int depth = depthOf(each);
            Due.holds("11: calls from " + each + " on go " + depth + " deep", depth <= DEEPEST_CALLS);
        }
        Due.holds("the calls were read", depthOf("BinMap.put") > 5);
    }

    /** How many calls stand open at most, the method's own too; the library's count as one. */
    private int depthOf(String name) {
        if (open.contains(name)) {
            Due.holds("8: no recursion: " + open + " " + name, false);
            return 0;
        }
        String library = "Arrays.fill|IllegalArgumentException.*|ArithmeticException.*|NoSuchElementException.*";
        if (!calls.containsKey(name)) {
            Due.holds("4: " + name + " is in the library", name.matches(library));
            return 1;
        }
        open.push(name);
        int deepest = 0;
        for (String each : calls.get(name)) {
            deepest = Math.max(deepest, depthOf(each));
        }
        open.pop();
        return deepest + 1;
    }
}
