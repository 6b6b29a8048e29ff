import java.lang.reflect.Constructor;
import java.lang.reflect.Executable;
import java.lang.reflect.Field;
import java.lang.reflect.Method;
import java.lang.reflect.Modifier;
import java.util.Arrays;
import java.util.List;
import java.util.TreeSet;
import java.util.stream.Collectors;

/** The public face: its members, their types and the exceptions that they name, and no others. */
public final class FaceTest {
    private static final Checks CHECKS = new Checks();
    private static final String PLACE = " IndexOutOfBoundsException";
    private static final String ARGUMENT = " IllegalArgumentException";
    private static final String STATE = " IllegalStateException";
    private static final List<String> FACE = List.of(
            "int fresh/4" + PLACE + ARGUMENT, "int dot/4" + PLACE + ARGUMENT, "int box/6" + PLACE + ARGUMENT,
            "int disc/5" + PLACE + ARGUMENT, "int shade/4" + PLACE + ARGUMENT, "int copy/2" + PLACE,
            "int mix/3" + PLACE + ARGUMENT + STATE, "int turn/2" + PLACE + ARGUMENT + STATE,
            "int kernel/2" + PLACE + ARGUMENT, "int divide/2" + ARGUMENT, "int filter/2" + PLACE + ARGUMENT,
            "int values/2" + PLACE + ARGUMENT, "int value/3" + PLACE, "int sheet/2" + PLACE + ARGUMENT,
            "int count/3" + PLACE, "int ordered/2" + PLACE, "double difference/2" + PLACE + STATE,
            "int parts/2" + PLACE + ARGUMENT, "int holes/2" + PLACE + ARGUMENT, "int partOf/4" + PLACE + ARGUMENT,
            "int part/4" + PLACE + ARGUMENT, "int keep/2" + PLACE + ARGUMENT, "int far/4" + PLACE + ARGUMENT,
            "int spread/2" + PLACE + ARGUMENT, "int carve/1" + PLACE + STATE, "int widen/1" + PLACE + STATE,
            "int seam/2" + PLACE, "int partsAt/3" + PLACE + ARGUMENT, "int carvedBy/2" + PLACE + ARGUMENT,
            "long digest/0");

    public static void main(String[] args) {
        classIsPublicAndFinal();
        oneConstructorWithoutArguments();
        methodsAreThoseOfTheFace();
        argumentsAreWhole();
        nothingElseIsOpen();
        CHECKS.close();
    }

    private static void classIsPublicAndFinal() {
        int modifiers = ParallaxSheets.class.getModifiers();
        CHECKS.tell(Modifier.isPublic(modifiers) && Modifier.isFinal(modifiers), "the class is not public and final");
        CHECKS.tell(ParallaxSheets.class.getSuperclass() == Object.class, "the class extends another one");
        CHECKS.due("interfaces", ParallaxSheets.class.getInterfaces().length, 0);
    }

    private static void oneConstructorWithoutArguments() {
        Constructor<?>[] made = ParallaxSheets.class.getDeclaredConstructors();
        CHECKS.due("constructors", made.length, 1);
        CHECKS.tell(Modifier.isPublic(made[0].getModifiers()), "the constructor is not public");
        CHECKS.due("its arguments", made[0].getParameterCount(), 0);
        CHECKS.due("its exceptions", made[0].getExceptionTypes().length, 0);
    }

    private static void methodsAreThoseOfTheFace() {
        TreeSet<String> got = Arrays.stream(ParallaxSheets.class.getDeclaredMethods())
                .filter(m -> !Modifier.isPrivate(m.getModifiers())).map(FaceTest::written)
                .collect(Collectors.toCollection(TreeSet::new));
        CHECKS.tell(got.equals(new TreeSet<>(FACE)), "the face is " + got);
    }

    private static String written(Method m) {
        String exceptions = Arrays.stream(m.getExceptionTypes()).map(e -> " " + e.getSimpleName())
                .collect(Collectors.joining());
        return m.getReturnType() + " " + m.getName() + "/" + m.getParameterCount() + exceptions;
    }

    private static void argumentsAreWhole() {
        for (Method m : ParallaxSheets.class.getMethods()) {
            if (m.getDeclaringClass() == ParallaxSheets.class) {
                CHECKS.tell(Arrays.stream(m.getParameterTypes()).allMatch(t -> t == int.class),
                        m.getName() + " takes something other than int");
                CHECKS.tell(!Modifier.isStatic(m.getModifiers()), m.getName() + " is static");
            }
        }
    }

    private static void nothingElseIsOpen() {
        for (Field f : ParallaxSheets.class.getDeclaredFields()) {
            CHECKS.tell(Modifier.isPrivate(f.getModifiers()), "the field " + f.getName() + " is not private");
            CHECKS.tell(Modifier.isFinal(f.getModifiers()) || !Modifier.isStatic(f.getModifiers()),
                    "the static field " + f.getName() + " is not final");
        }
        for (Class<?> inside : ParallaxSheets.class.getDeclaredClasses()) {
            int modifiers = inside.getModifiers();
            CHECKS.tell(!Modifier.isPublic(modifiers) && !Modifier.isProtected(modifiers),
                    "the class " + inside.getName() + " is open");
        }
        TreeSet<String> open = named(Arrays.stream(ParallaxSheets.class.getDeclaredMethods()).toList(), false);
        TreeSet<String> closed = named(Arrays.stream(ParallaxSheets.class.getDeclaredMethods()).toList(), true);
        closed.retainAll(open);
        CHECKS.tell(closed.isEmpty(), "private methods bear the names of open ones: " + closed);
    }

    private static TreeSet<String> named(List<? extends Executable> all, boolean isPrivate) {
        return all.stream().filter(m -> Modifier.isPrivate(m.getModifiers()) == isPrivate)
                .map(Executable::getName).collect(Collectors.toCollection(TreeSet::new));
    }
}
