import java.lang.reflect.Constructor;
import java.lang.reflect.Field;
import java.lang.reflect.Method;
import java.lang.reflect.Modifier;
import java.util.Arrays;
import java.util.Set;
import java.util.TreeSet;
import java.util.stream.Collectors;

/** The class has the members of the document's face and no other that can be seen from outside. */
public final class FaceTest {
    private static final Set<String> FACE = new TreeSet<>(Arrays.asList(
            "int weight(long, long, long, long) IllegalArgumentException, IllegalStateException",
            "int tank(long, long, long, long, long) IllegalArgumentException, IllegalStateException",
            "int filled(int, long) IndexOutOfBoundsException",
            "int hydro(long, long, long) IllegalArgumentException, IllegalStateException",
            "boolean hull(long, long) ",
            "long value(int, int) IllegalArgumentException, ArithmeticException",
            "long shear(long) IllegalArgumentException",
            "long bending(long) IllegalArgumentException",
            "int limit(int, long, long, long) IllegalArgumentException, IllegalStateException",
            "int check() ",
            "long ballast() ",
            "long fill(int) IndexOutOfBoundsException",
            "int plan(boolean, int, long) IndexOutOfBoundsException, IllegalArgumentException, IllegalStateException",
            "int step(int) IndexOutOfBoundsException",
            "int broken() ",
            "int count(int) "));

    private static String names(Class<?>[] types) {
        return Arrays.stream(types).map(Class::getSimpleName).collect(Collectors.joining(", "));
    }

    public static void main(String[] args) throws NoSuchFieldException {
        Due due = new Due();
        Set<String> seen = new TreeSet<>();
        Set<String> publicNames = new TreeSet<>();
        for (Method m : StabilitySums.class.getDeclaredMethods()) {
            if (!Modifier.isPrivate(m.getModifiers()) && !m.isSynthetic()) {
                due.holds(m + " is not plainly public", Modifier.isPublic(m.getModifiers()) && !Modifier.isStatic(m.getModifiers()));
                seen.add(m.getReturnType().getSimpleName() + " " + m.getName() + "(" + names(m.getParameterTypes()) + ") " + names(m.getExceptionTypes()));
                publicNames.add(m.getName());
            }
        }
        due.holds("the face is " + seen + ", due is " + FACE, seen.equals(FACE));
        for (Method m : StabilitySums.class.getDeclaredMethods()) {
            due.holds(m + " bears a public name", !Modifier.isPrivate(m.getModifiers()) || !publicNames.contains(m.getName()));
        }
        for (Field f : StabilitySums.class.getDeclaredFields()) {
            due.holds(f + " can be seen", Modifier.isPrivate(f.getModifiers()) || f.getName().equals("NONE"));
        }
        Field none = StabilitySums.class.getDeclaredField("NONE");
        due.holds("NONE is no public constant of int", none.getType() == int.class
                && none.getModifiers() == (Modifier.PUBLIC | Modifier.STATIC | Modifier.FINAL));
        due.answers("NONE", -1, () -> StabilitySums.NONE);
        Constructor<?>[] constructors = StabilitySums.class.getDeclaredConstructors();
        due.holds("there is not one public constructor without arguments", constructors.length == 1
                && constructors[0].getParameterCount() == 0 && Modifier.isPublic(constructors[0].getModifiers()));
        due.holds("the class is not public and final", StabilitySums.class.getModifiers() == (Modifier.PUBLIC | Modifier.FINAL));
        due.end();
    }
}
