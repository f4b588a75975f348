import java.lang.reflect.Constructor;
import java.lang.reflect.Method;
import java.lang.reflect.Modifier;
import java.util.ArrayList;
import java.util.Collections;
import java.util.List;

/** The public face: the class, its constructor, and its methods with what they throw, and nothing else. */
public final class FaceTest {
    private static final String[] FACE = {
        "public int feed(int a, int b, int c, int d, int e) throws IllegalStateException;",
        "public int trim(int n) throws IllegalArgumentException;",
        "public int compile();",
        "public int errorAt();",
        "public int count(int what) throws IndexOutOfBoundsException;",
        "public int write(int def) throws IndexOutOfBoundsException, IllegalStateException;",
        "public int writeConstructor(int constructor) throws IndexOutOfBoundsException, IllegalStateException;",
        "public int writeAt(int place) throws IndexOutOfBoundsException, IllegalStateException;",
        "public int byteAt(int k) throws IndexOutOfBoundsException;",
        "public int measure(int def, int what) throws IndexOutOfBoundsException;",
        "public int uses(int a, int b) throws IndexOutOfBoundsException;",
        "public boolean covers(int a, int b) throws IndexOutOfBoundsException;",
        "public int meet(int a, int b) throws IndexOutOfBoundsException, IllegalStateException;",
        "public int ask();",
        "public double meanParts();",
        "public long digest();",
    };

    public static void main(String[] args) {
        Check check = new Check("FaceTest");
        check.holds("public final class TypeLoom { public TypeLoom();");
        check.same("the modifiers of the class", Modifier.toString(TypeLoom.class.getModifiers()), "public final");
        check.same("the class above it", TypeLoom.class.getSuperclass().getName(), "java.lang.Object");
        check.same("interfaces", TypeLoom.class.getInterfaces().length, 0);
        Constructor<?>[] constructors = TypeLoom.class.getConstructors();
        check.same("constructors", constructors.length, 1);
        check.same("their parameters", constructors[0].getParameterCount(), 0);
        check.same("what it throws", constructors[0].getExceptionTypes().length, 0);
        check.same("public fields", TypeLoom.class.getFields().length, 0);
        methods(check);
        check.end();
    }

    private static void methods(Check check) {
        List<String> due = new ArrayList<>();
        for (String method : FACE) {
            check.holds(method);
            due.add(method.replaceAll("(int) [a-z]+([,)])", "$1$2").replace(";", ""));
        }
        List<String> got = new ArrayList<>();
        for (Method method : TypeLoom.class.getDeclaredMethods()) {
            if (Modifier.isPublic(method.getModifiers()) && !method.isSynthetic()) {
                got.add(told(method));
            }
        }
        Collections.sort(due);
        Collections.sort(got);
        check.same("the methods", String.join("\n", got), String.join("\n", due));
    }

    private static String told(Method method) {
        List<String> parameters = new ArrayList<>();
        for (Class<?> type : method.getParameterTypes()) {
            parameters.add(type.getSimpleName());
        }
        List<String> exceptions = new ArrayList<>();
        for (Class<?> type : method.getExceptionTypes()) {
            exceptions.add(type.getSimpleName());
        }
        return Modifier.toString(method.getModifiers()) + " " + method.getReturnType().getSimpleName() + " "
                + method.getName() + "(" + String.join(", ", parameters) + ")"
                + (exceptions.isEmpty() ? "" : " throws " + String.join(", ", exceptions));
    }
}
