import java.lang.reflect.Constructor;
import java.lang.reflect.Field;
import java.lang.reflect.Method;
import java.lang.reflect.Modifier;
import java.util.ArrayList;
import java.util.Arrays;
import java.util.Collections;
import java.util.List;

/** The face of the class, and that no arguments, on any object, bring out another exception than the document's. */
public final class FaceTest {
    private static final int[] ODD_NUMBERS = {
        Integer.MIN_VALUE, Integer.MIN_VALUE + 1, -10, -9, -2, -1, 0, 1, 2, 3, 4, 5, 6, 7, 8, 9, 10, 29, 30, 31, 32, 33,
        512, 99999999, 100000000, Integer.MAX_VALUE - 1, Integer.MAX_VALUE
    };

    public static void main(String[] args) throws ReflectiveOperationException {
        members();
        exceptions(new Cascadecourt());
        exceptions(playedCourt());
        Check.end("FaceTest");
    }

    private static void members() {
        int modifiers = Cascadecourt.class.getModifiers();
        Check.that("the class is public and final", Modifier.PUBLIC | Modifier.FINAL, modifiers);
        String index = "IndexOutOfBoundsException";
        String argument = "IllegalArgumentException";
        String state = "IllegalStateException";
        List<String> due = Arrays.asList(
                "int tell [int, int] " + Arrays.asList(argument, state),
                "boolean shift [int, int] " + Arrays.asList(index, argument),
                "int swap [int, int, int] " + Arrays.asList(index, argument, state),
                "int raise [int, int] " + Arrays.asList(index, argument, state),
                "boolean turn [int] " + Arrays.asList(index, state),
                "int join [int, int] " + Arrays.asList(index, state),
                "int take [int] " + Arrays.asList(argument),
                "int toss [int] " + Arrays.asList(argument),
                "int run [int, int, int] " + Arrays.asList(index, argument),
                "int pick [] []",
                "int ofRow [int, int] " + Arrays.asList(index, argument),
                "int ofSite [int, int, int] " + Arrays.asList(index, argument),
                "String text [int] " + Arrays.asList(index),
                "int ofProp [int, int] " + Arrays.asList(index, argument),
                "int many [int] " + Arrays.asList(argument),
                "double tired [] []",
                "double high [int] " + Arrays.asList(index),
                "int would [int] " + Arrays.asList(argument),
                "int way [int] " + Arrays.asList(index),
                "int first [int] " + Arrays.asList(index),
                "int count [int, int] " + Arrays.asList(argument),
                "int alike [int, int] " + Arrays.asList(index),
                "long digest [] []");
        List<String> found = new ArrayList<>();
        for (Method method : Cascadecourt.class.getDeclaredMethods()) {
            if (!Modifier.isPrivate(method.getModifiers())) {
                found.add(faceOf(method));
            }
        }
        Collections.sort(due);
        Collections.sort(found);
        Check.that("the methods", due, found);
        fieldsAndConstructor();
    }

    private static void fieldsAndConstructor() {
        for (Field field : Cascadecourt.class.getDeclaredFields()) {
            Check.that(field + " is private", true, Modifier.isPrivate(field.getModifiers()));
        }
        Constructor<?>[] constructors = Cascadecourt.class.getDeclaredConstructors();
        Check.that("one constructor", 1, constructors.length);
        Check.that("it is public", true, Modifier.isPublic(constructors[0].getModifiers()));
        Check.that("it takes nothing", 0, constructors[0].getParameterCount());
    }

    /** What it returns, its name, what it takes, and the exceptions that it tells. */
    private static String faceOf(Method method) {
        return method.getReturnType().getSimpleName() + " " + method.getName() + " "
                + namesOf(method.getParameterTypes()) + " " + namesOf(method.getExceptionTypes());
    }

    private static List<String> namesOf(Class<?>[] types) {
        List<String> names = new ArrayList<>();
        for (Class<?> type : types) {
            names.add(type.getSimpleName());
        }
        return names;
    }

    private static Cascadecourt playedCourt() {
        Cascadecourt court = new Cascadecourt();
        court.tell(97531, 5);
        court.tell(0, 1);
        court.tell(44004400, 8);
        court.tell(321, 3);
        court.take(6);
        court.toss(0);
        court.toss(2);
        return court;
    }

    private static void exceptions(Cascadecourt court) throws ReflectiveOperationException {
        for (Method method : Cascadecourt.class.getDeclaredMethods()) {
            if (Modifier.isPrivate(method.getModifiers())) {
                continue;
            }
            List<Class<?>> told = Arrays.asList(method.getExceptionTypes());
            for (int[] given : givenTo(method)) {
                Check.that(method.getName() + Arrays.toString(given) + " throws what the face tells", true,
                        throwsNothingBut(told, method, court, given));
            }
        }
    }

    private static boolean throwsNothingBut(List<Class<?>> told, Method method, Cascadecourt court, int[] given)
            throws ReflectiveOperationException {
        try {
            method.invoke(court, Arrays.stream(given).boxed().toArray());
            return true;
        } catch (java.lang.reflect.InvocationTargetException wrapped) {
            return told.contains(wrapped.getCause().getClass());
        }
    }

    private static List<int[]> givenTo(Method method) {
        List<int[]> all = new ArrayList<>();
        all.add(new int[0]);
        for (int place = 0; place < method.getParameterCount(); place++) {
            List<int[]> longer = new ArrayList<>();
            for (int[] given : all) {
                for (int number : ODD_NUMBERS) {
                    int[] next = Arrays.copyOf(given, given.length + 1);
                    next[given.length] = number;
                    longer.add(next);
                }
            }
            all = longer;
        }
        return all;
    }
}
