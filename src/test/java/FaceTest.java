import java.lang.reflect.Constructor;
import java.lang.reflect.Field;
import java.lang.reflect.Method;
import java.lang.reflect.Modifier;
import java.util.Arrays;
import java.util.TreeSet;

/** The public face: the class has the document's constants, constructor and methods, and no others. */
public final class FaceTest {
    private static final Due DUE = new Due();

    private static final String METHODS = "abort(int) begin() carryOut() commit(int) count(int) doomed(int) edge(int,int) "
        + "fault() of(int,int) order(int) over(int,int) put(long) read(int,int) restore(int) rule(int) save(int) "
        + "sees(int,int) triple(int,int) undo() value(int) wipe() would(int) write(int,int,int)";
    private static final String CONSTANTS = "BAD_TEXT=-3 BAD_VALUE=-2 NONE=-6 NOT_POSSIBLE=-5 NO_SUCH=-1 TOO_MANY=-4";

    public static void main(String[] args) throws IllegalAccessException {
        int modifiers = SkewEdges.class.getModifiers();
        same("class", Modifier.toString(modifiers), "public final");
        same("methods", methods(), METHODS);
        same("constants", constants(), CONSTANTS);
        same("constructors", constructors(), "public SkewEdges()");
        classesInside();
        DUE.end();
    }

    private static String methods() {
        TreeSet<String> found = new TreeSet<>();
        for (Method method : SkewEdges.class.getDeclaredMethods()) {
            if (!Modifier.isPrivate(method.getModifiers())) {
                String types = Arrays.toString(Arrays.stream(method.getParameterTypes()).map(Class::getName).toArray());
                found.add(method.getName() + types.replace("[", "(").replace("]", ")").replace(" ", ""));
                same(method.getName(), Modifier.toString(method.getModifiers()), "public");
                same(method.getName(), method.getReturnType().getName(), "int");
            }
        }
        return String.join(" ", found);
    }

    private static String constants() throws IllegalAccessException {
        TreeSet<String> found = new TreeSet<>();
        for (Field field : SkewEdges.class.getDeclaredFields()) {
            if (!Modifier.isPrivate(field.getModifiers())) {
                same(field.getName(), Modifier.toString(field.getModifiers()), "public static final");
                found.add(field.getName() + "=" + field.getInt(null));
            }
        }
        return String.join(" ", found);
    }

    private static String constructors() {
        StringBuilder found = new StringBuilder();
        for (Constructor<?> constructor : SkewEdges.class.getDeclaredConstructors()) {
            found.append(constructor);
        }
        return found.toString();
    }

    /** The classes inside are static and not public, and no method of theirs bears the name of a public one. */
    private static void classesInside() {
        TreeSet<String> names = new TreeSet<>();
        for (String method : METHODS.split(" ")) {
            names.add(method.substring(0, method.indexOf('(')));
        }
        for (Class<?> inside : SkewEdges.class.getDeclaredClasses()) {
            int modifiers = inside.getModifiers();
            same(inside.getName() + " static", Modifier.toString(modifiers & Modifier.STATIC), "static");
            same(inside.getName() + " public", Modifier.toString(modifiers & (Modifier.PUBLIC | Modifier.PROTECTED)), "");
            for (Method method : inside.getDeclaredMethods()) {
                same(method.toString(), names.contains(method.getName()) ? "bears a public name" : "", "");
            }
        }
        for (Method method : SkewEdges.class.getDeclaredMethods()) {
            boolean hides = Modifier.isPrivate(method.getModifiers()) && names.contains(method.getName());
            same(method.toString(), hides ? "bears a public name" : "", "");
        }
    }

    private static void same(String what, String got, String want) {
        if (!got.equals(want)) {
            System.out.println(what + ": " + got + ", due is " + want);
        }
        DUE.is(1, what + " of the face", got.equals(want) ? 1 : 0, 1);
    }
}
