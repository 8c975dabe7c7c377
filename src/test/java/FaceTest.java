import java.lang.reflect.Constructor;
import java.lang.reflect.Field;
import java.lang.reflect.Method;
import java.lang.reflect.Modifier;
import java.util.Set;
import java.util.TreeSet;

/** The class has the document's face and nothing else; the classes inside it are not open. */
public final class FaceTest {
    private static final Set<String> FACE = Set.of(
            "public int BinMap.make(int,int,int) throws java.lang.IllegalArgumentException",
            "public long BinMap.put(int,int) throws java.lang.ArithmeticException",
            "public int BinMap.find(int,boolean) throws java.util.NoSuchElementException",
            "public boolean BinMap.has(int)",
            "public int BinMap.fill(int,int,int) throws java.lang.IllegalArgumentException",
            "public int BinMap.at(int) throws java.util.NoSuchElementException",
            "public int BinMap.after(int) throws java.util.NoSuchElementException",
            "public int BinMap.size()",
            "public int BinMap.clear()",
            "public int BinMap.hash()",
            "public int BinMap.wrong()");

    public static void main(String[] args) {
        face();
        classesInside();
        Due.finish("FaceTest");
    }

    private static void face() {
        Due.answer("class", Modifier.PUBLIC | Modifier.FINAL, BinMap.class.getModifiers());
        Constructor<?>[] constructors = BinMap.class.getDeclaredConstructors();
        Due.answer("constructors", 1, constructors.length);
        Due.holds("public BinMap()", constructors[0].toGenericString().equals("public BinMap()"));
        Set<String> open = new TreeSet<>();
        for (Method method : BinMap.class.getDeclaredMethods()) {
            if (!Modifier.isPrivate(method.getModifiers())) {
                open.add(method.toGenericString());
            }
        }
        Due.holds("the face is " + open, open.equals(new TreeSet<>(FACE)));
        for (Field field : BinMap.class.getDeclaredFields()) {
            Due.holds(field + " is private", Modifier.isPrivate(field.getModifiers()));
        }
    }

    private static void classesInside() {
        Set<String> open = new TreeSet<>();
        for (Method method : BinMap.class.getMethods()) {
            if (method.getDeclaringClass() == BinMap.class) {
                open.add(method.getName());
            }
        }
        for (Class<?> inside : BinMap.class.getDeclaredClasses()) {
            Due.holds(inside + " is static", Modifier.isStatic(inside.getModifiers()));
            int openOnes = Modifier.PUBLIC | Modifier.PROTECTED;
            Due.holds(inside + " is not open", (inside.getModifiers() & openOnes) == 0);
            for (Method method : inside.getDeclaredMethods()) {
                Due.holds(method + " has a name of its own", !open.contains(method.getName()));
            }
            for (Field field : inside.getDeclaredFields()) {
                boolean changes = Modifier.isStatic(field.getModifiers()) && !Modifier.isFinal(field.getModifiers());
                Due.holds(field + " is no static state", !changes);
            }
        }
    }
}
