import java.lang.reflect.Constructor;
import java.lang.reflect.Field;
import java.lang.reflect.Method;
import java.lang.reflect.Modifier;
import java.util.Arrays;
import java.util.Set;
import java.util.TreeSet;
import java.util.stream.Collectors;

/** The class has the public face of the document, and nothing more that others can see. */
final class FaceTest {
    private static final String IOOBE = "IndexOutOfBoundsException";
    private static final String IAE = "IllegalArgumentException";
    private static final String ISE = "IllegalStateException";

    private FaceTest() {
    }

    public static void main(String[] args) {
        Set<String> want = new TreeSet<>(Set.of(
            "int addTeam() " + ISE,
            "int setTide(int,int) " + IOOBE + "," + IAE,
            "int dig(int,int,int,int) " + IOOBE + "," + IAE + "," + ISE,
            "int pile(int,int,int,int) " + IOOBE + "," + IAE + "," + ISE,
            "int pack(int,int,int) " + IOOBE + "," + IAE + "," + ISE,
            "int plant(int,int,int) " + IOOBE + "," + IAE + "," + ISE,
            "int cell(int,int,int) " + IOOBE,
            "int team(int,int) " + IOOBE,
            "int count(int) " + IOOBE,
            "int pass(int) " + IAE,
            "int endRound() ",
            "int leader(int) " + IOOBE,
            "int flood(int) " + IAE,
            "int reach(int,int) " + IOOBE,
            "int foresee(int,int,int) " + IAE + "," + IOOBE,
            "int advise(int,int) " + IOOBE + "," + IAE,
            "double mean() ",
            "long digest() "));
        Set<String> got = new TreeSet<>();
        for (Method method : SandcastleLeague.class.getDeclaredMethods()) {
            if (!Modifier.isPrivate(method.getModifiers())) {
                Check.due("modifiers of " + method, Modifier.PUBLIC, method.getModifiers());
                got.add(faceOf(method));
            }
        }
        Check.due("the face is " + got + ", due is " + want + ", that it is so", 1, got.equals(want) ? 1 : 0);
        Check.due("modifiers", Modifier.PUBLIC | Modifier.FINAL, SandcastleLeague.class.getModifiers());
        Check.due("constructors", 1, SandcastleLeague.class.getDeclaredConstructors().length);
        for (Constructor<?> constructor : SandcastleLeague.class.getDeclaredConstructors()) {
            Check.due("constructor's modifiers", Modifier.PUBLIC, constructor.getModifiers());
            Check.due("constructor's parameters", 0, constructor.getParameterCount());
        }
        for (Field field : SandcastleLeague.class.getDeclaredFields()) {
            Check.due(field + " is private", 1, Modifier.isPrivate(field.getModifiers()) ? 1 : 0);
        }
        for (Class<?> inside : SandcastleLeague.class.getDeclaredClasses()) {
            int seen = inside.getModifiers() & (Modifier.PUBLIC | Modifier.PROTECTED);
            Check.due(inside + " is seen by none", 0, seen);
        }
        Check.finish("FaceTest");
    }

    private static String faceOf(Method method) {
        return method.getReturnType() + " " + method.getName() + "(" + names(method.getParameterTypes()) + ") "
            + names(method.getExceptionTypes());
    }

    private static String names(Class<?>[] types) {
        return Arrays.stream(types).map(Class::getSimpleName).collect(Collectors.joining(","));
    }
}
