import java.lang.reflect.Constructor;
import java.lang.reflect.Executable;
import java.lang.reflect.Field;
import java.lang.reflect.Method;
import java.lang.reflect.Modifier;
import java.util.Arrays;
import java.util.List;
import java.util.TreeSet;
import java.util.stream.Collectors;

/**
 * The public face: its members, their types, the names of their arguments (kept by -parameters, see .ci/run) and the
 * exceptions that they name, and no others.
 */
public final class FaceTest {
    private static final Checks CHECKS = new Checks();
    private static final String PLACE = " IndexOutOfBoundsException";
    private static final String ARGUMENT = " IllegalArgumentException";
    private static final String STATE = " IllegalStateException";
    private static final List<String> FACE = List.of(
            "int fresh(sheet, w, h, value)" + PLACE + ARGUMENT,
            "int dot(sheet, x, y, value)" + PLACE + ARGUMENT,
            "int box(sheet, x, y, toX, toY, value)" + PLACE + ARGUMENT,
            "int disc(sheet, x, y, radius, value)" + PLACE + ARGUMENT,
            "int shade(sheet, across, along, rough)" + PLACE + ARGUMENT,
            "int copy(from, to)" + PLACE,
            "int mix(to, from, share)" + PLACE + ARGUMENT + STATE,
            "int turn(sheet, how)" + PLACE + ARGUMENT + STATE,
            "int kernel(place, weight)" + PLACE + ARGUMENT,
            "int divide(divisor, base)" + ARGUMENT,
            "int filter(sheet, how)" + PLACE + ARGUMENT,
            "int values(sheet, how)" + PLACE + ARGUMENT,
            "int value(sheet, x, y)" + PLACE,
            "int sheet(sheet, what)" + PLACE + ARGUMENT,
            "int count(sheet, low, high)" + PLACE,
            "int ordered(sheet, k)" + PLACE,
            "double difference(one, other)" + PLACE + STATE,
            "int parts(sheet, ways)" + PLACE + ARGUMENT,
            "int holes(sheet, ways)" + PLACE + ARGUMENT,
            "int partOf(sheet, ways, x, y)" + PLACE + ARGUMENT,
            "int part(sheet, ways, part, what)" + PLACE + ARGUMENT,
            "int keep(sheet, ways)" + PLACE + ARGUMENT,
            "int far(sheet, way, x, y)" + PLACE + ARGUMENT,
            "int spread(sheet, way)" + PLACE + ARGUMENT,
            "int carve(sheet)" + PLACE + STATE,
            "int widen(sheet)" + PLACE + STATE,
            "int seam(sheet, y)" + PLACE,
            "int partsAt(sheet, ways, t)" + PLACE + ARGUMENT,
            "int carvedBy(sheet, seams)" + PLACE + ARGUMENT,
            "long digest()");

    public static void main(String[] args) {
        classIsPublicAndFinal();
        oneConstructorWithoutArguments();
        methodsAreThoseOfTheFace();
        argumentsAreWhole();
        nothingElseIsOpen();
        CHECKS.close();
    }

    private static void classIsPublicAndFinal() {
        int modifiers = ParallaxSheets.class.getModifiers();
        CHECKS.tell(Modifier.isPublic(modifiers) && Modifier.isFinal(modifiers), "the class is not public and final");
        CHECKS.tell(ParallaxSheets.class.getSuperclass() == Object.class, "the class extends another one");
        CHECKS.due("interfaces", ParallaxSheets.class.getInterfaces().length, 0);
    }

    private static void oneConstructorWithoutArguments() {
        Constructor<?>[] made = ParallaxSheets.class.getDeclaredConstructors();
        CHECKS.due("constructors", made.length, 1);
        CHECKS.tell(Modifier.isPublic(made[0].getModifiers()), "the constructor is not public");
        CHECKS.due("its arguments", made[0].getParameterCount(), 0);
        CHECKS.due("its exceptions", made[0].getExceptionTypes().length, 0);
    }

    private static void methodsAreThoseOfTheFace() {
        TreeSet<String> got = Arrays.stream(ParallaxSheets.class.getDeclaredMethods())
                .filter(m -> !Modifier.isPrivate(m.getModifiers())).map(FaceTest::written)
                .collect(Collectors.toCollection(TreeSet::new));
        CHECKS.tell(got.equals(new TreeSet<>(FACE)), "the face is " + got);
    }

    private static String written(Method m) {
        String exceptions = Arrays.stream(m.getExceptionTypes()).map(e -> " " + e.getSimpleName())
                .collect(Collectors.joining());
        String arguments = Arrays.stream(m.getParameters()).map(p -> p.getName())
                .collect(Collectors.joining(", ", "(", ")"));
        return m.getReturnType() + " " + m.getName() + arguments + exceptions;
    }

    private static void argumentsAreWhole() {
        for (Method m : ParallaxSheets.class.getMethods()) {
            if (m.getDeclaringClass() == ParallaxSheets.class) {
                CHECKS.tell(Arrays.stream(m.getParameterTypes()).allMatch(t -> t == int.class),
                        m.getName() + " takes something other than int");
                CHECKS.tell(!Modifier.isStatic(m.getModifiers()), m.getName() + " is static");
            }
        }
    }

    private static void nothingElseIsOpen() {
        for (Field f : ParallaxSheets.class.getDeclaredFields()) {
            CHECKS.tell(Modifier.isPrivate(f.getModifiers()), "the field " + f.getName() + " is not private");
            CHECKS.tell(Modifier.isFinal(f.getModifiers()) || !Modifier.isStatic(f.getModifiers()),
                    "the static field " + f.getName() + " is not final");
        }
        for (Class<?> inside : ParallaxSheets.class.getDeclaredClasses()) {
            int modifiers = inside.getModifiers();
            CHECKS.tell(!Modifier.isPublic(modifiers) && !Modifier.isProtected(modifiers),
                    "the class " + inside.getName() + " is open");
        }
        TreeSet<String> open = named(Arrays.stream(ParallaxSheets.class.getDeclaredMethods()).toList(), false);
        TreeSet<String> closed = named(Arrays.stream(ParallaxSheets.class.getDeclaredMethods()).toList(), true);
        closed.retainAll(open);
        CHECKS.tell(closed.isEmpty(), "private methods bear the names of open ones: " + closed);
    }

    private static TreeSet<String> named(List<? extends Executable> all, boolean isPrivate) {
        return all.stream().filter(m -> Modifier.isPrivate(m.getModifiers()) == isPrivate)
                .map(Executable::getName).collect(Collectors.toCollection(TreeSet::new));
    }
}
