import java.lang.reflect.Constructor;
import java.lang.reflect.Field;
import java.lang.reflect.Method;
import java.lang.reflect.Modifier;
import java.nio.file.Files;
import java.nio.file.Path;
import java.util.Set;
import java.util.TreeSet;
import java.util.regex.Matcher;
import java.util.regex.Pattern;

/** The class has the document's face and nothing else, and keeps to what can be seen of LANGUAGE.md. */
public final class FaceTest {
    private static final Set<String> FACE = Set.of(
            "public int BinMap.make(int,int,int) throws java.lang.IllegalArgumentException",
            "public long BinMap.put(int,int) throws java.lang.ArithmeticException",
            "public int BinMap.find(int,boolean) throws java.util.NoSuchElementException",
            "public boolean BinMap.has(int)",
            "public int BinMap.fill(int,int,int) throws java.lang.IllegalArgumentException",
            "public int BinMap.at(int) throws java.util.NoSuchElementException",
            "public int BinMap.after(int) throws java.util.NoSuchElementException",
            "public int BinMap.size()",
            "public int BinMap.clear()",
            "public int BinMap.hash()",
            "public int BinMap.wrong()");

    public static void main(String[] args) throws Exception {
        face();
        classesInside();
        source(Files.readString(Path.of("src/main/java/BinMap.java")));
        Due.finish("FaceTest");
    }

    private static void face() {
        Due.answer("class", Modifier.PUBLIC | Modifier.FINAL, BinMap.class.getModifiers());
        Constructor<?>[] constructors = BinMap.class.getDeclaredConstructors();
        Due.answer("constructors", 1, constructors.length);
        Due.holds("public BinMap()", constructors[0].toGenericString().equals("public BinMap()"));
        Set<String> open = new TreeSet<>();
        for (Method method : BinMap.class.getDeclaredMethods()) {
            if (!Modifier.isPrivate(method.getModifiers())) {
                open.add(method.toGenericString());
            }
        }
        Due.holds("the face is " + open, open.equals(new TreeSet<>(FACE)));
        for (Field field : BinMap.class.getDeclaredFields()) {
            Due.holds(field + " is private", Modifier.isPrivate(field.getModifiers()));
        }
    }

    private static void classesInside() {
        Set<String> open = new TreeSet<>();
        for (Method method : BinMap.class.getMethods()) {
            if (method.getDeclaringClass() == BinMap.class) {
                open.add(method.getName());
            }
        }
        for (Class<?> inside : BinMap.class.getDeclaredClasses()) {
            Due.holds(inside + " is static", Modifier.isStatic(inside.getModifiers()));
            Due.holds(inside + " is not open", !Modifier.isPublic(inside.getModifiers()));
            for (Method method : inside.getDeclaredMethods()) {
                Due.holds(method + " has a name of its own", !open.contains(method.getName()));
            }
            for (Field field : inside.getDeclaredFields()) {
                boolean changes = Modifier.isStatic(field.getModifiers()) && !Modifier.isFinal(field.getModifiers());
                Due.holds(field + " is no static state", !changes);
            }
        }
    }

    private static void source(String text) {
        String code = text.replaceAll("(?s)/\\*.*?\\*/", "").replaceAll("//.*", "");
        String[] ruledOut = {
            "->", "::", "\\bfinally\\b", "\\bsynchronized\\b", "\\bassert\\b", "\\bpackage\\b", "\\btry\\b",
            "\\bObject\\b", "Exact\\b", "\\bstatic\\s*\\{", "import (?!java\\.util\\.(Arrays|NoSuchElementException);)",
            "\\b(System|Thread|Random|Runtime)\\b", "\\b(equals|hashCode|toString)\\b",
        };
        for (String each : ruledOut) {
            Matcher matcher = Pattern.compile(each).matcher(code);
            Due.holds("the source has no " + each, !matcher.find());
        }
        Matcher thrown = Pattern.compile("throw new (\\w+)\\(\\)").matcher(code);
        Set<String> known = Set.of("IllegalArgumentException", "ArithmeticException", "NoSuchElementException");
        while (thrown.find()) {
            Due.holds("throws " + thrown.group(1), known.contains(thrown.group(1)));
        }
    }
}
