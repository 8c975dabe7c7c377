import java.io.IOException;
import java.lang.reflect.InvocationTargetException;
import java.lang.reflect.Method;
import java.lang.reflect.Modifier;
import java.nio.file.Files;
import java.nio.file.Path;
import java.util.List;
import java.util.Set;
import java.util.TreeSet;
import java.util.regex.Matcher;
import java.util.regex.Pattern;
import java.util.stream.Stream;

/** README.md shows calls with what they answer or throw: that is so, and no call is left out. */
public final class ReadmeTest {
    private static final String NEW = "BinMap map = new BinMap();";
    private static final Pattern CALL =
            Pattern.compile("map\\.(\\w+)\\(([^)]*)\\);\\s+// (answers|throws) (-?\\w+)(?:[,:;] .*)?");

    private static final Set<String> shown = new TreeSet<>();
    private static BinMap map;

    public static void main(String[] args) throws IOException {
        List<String> lines = Files.readAllLines(Path.of("README.md"));
        boolean isCode = false;
        for (String line : lines) {
            if (line.startsWith("```")) {
                isCode = line.equals("```java");
                map = null;
            } else if (isCode) {
                example(line);
            }
        }
        everyCallIsShown(String.join("\n", lines));
        everyTestIsNamed(String.join("\n", lines));
        Due.finish("ReadmeTest");
    }

    private static void example(String line) {
        if (line.equals(NEW)) {
            map = new BinMap();
            return;
        }
        Matcher matcher = CALL.matcher(line);
        boolean isCall = matcher.matches() && map != null;
        Due.holds("README.md: a call on a map with what it answers or throws: " + line, isCall);
        if (isCall) {
            shown.add(matcher.group(1));
            String want = matcher.group(3) + " " + matcher.group(4);
            String got = outcome(matcher.group(1), matcher.group(2));
            Due.holds("README.md: " + line + " (it " + got + ")", got.equals(want));
        }
    }

    private static String outcome(String name, String values) {
        String[] texts = values.isEmpty() ? new String[0] : values.split(", ");
        Method method = methodOf(name);
        if (method == null || method.getParameterCount() != texts.length) {
            return "is no call of the face";
        }
        Object[] arguments = new Object[texts.length];
        for (int i = 0; i < texts.length; i++) {
            boolean isNumber = method.getParameterTypes()[i] == int.class;
            arguments[i] = isNumber ? (Object) Integer.valueOf(texts[i]) : (Object) Boolean.valueOf(texts[i]);
        }
        try {
            return "answers " + method.invoke(map, arguments);
        } catch (InvocationTargetException e) {
            return "throws " + e.getCause().getClass().getSimpleName();
        } catch (IllegalAccessException e) {
            return "can't be called";
        }
    }

    private static Method methodOf(String name) {
        for (Method method : BinMap.class.getDeclaredMethods()) {
            if (Modifier.isPublic(method.getModifiers()) && method.getName().equals(name)) {
                return method;
            }
        }
        return null;
    }

    private static void everyCallIsShown(String text) {
        for (Method method : BinMap.class.getDeclaredMethods()) {
            if (Modifier.isPublic(method.getModifiers())) {
                String name = method.getName();
                Due.holds("README.md shows an answer of " + name, shown.contains(name));
                Due.holds("README.md has a row for " + name, text.contains("\n| `" + name + "("));
            }
        }
    }

    private static void everyTestIsNamed(String text) throws IOException {
        try (Stream<Path> files = Files.list(Path.of("src/test/java"))) {
            for (Path file : files.toList()) {
                String name = file.getFileName().toString().replace(".java", "");
                Due.holds("README.md names " + name, text.contains("`" + name + "`"));
            }
        }
        Matcher named = Pattern.compile("`(\\w+Test)`").matcher(text);
        while (named.find()) {
            Due.holds("there is a " + named.group(1), Files.exists(Path.of("src/test/java", named.group(1) + ".java")));
        }
    }
}
