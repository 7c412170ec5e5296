import java.lang.reflect.Constructor;
import java.lang.reflect.InvocationTargetException;
import java.lang.reflect.Method;
import java.lang.reflect.Modifier;
import java.util.ArrayList;
import java.util.Arrays;
import java.util.Collections;
import java.util.List;

/** The public face is the document's, and nothing else can be seen from outside or thrown to it. */
public final class FaceTest {
    private static final int[] NUMBERS = {
        Integer.MIN_VALUE, Integer.MIN_VALUE + 1, -64, -1, 0, 1, 4, 7, 12, 13, 20, 21, 63, 64, 1000, 1001, 4096, 5000,
        5001, Integer.MAX_VALUE - 1, Integer.MAX_VALUE,
    };
    private static final String[] METHODS = {
        "int build(int,int) throws IndexOutOfBoundsException,IllegalArgumentException,IllegalStateException",
        "int tear(int) throws IndexOutOfBoundsException,IllegalStateException",
        "int setTax(boolean,int) throws IllegalArgumentException",
        "int borrow(int) throws IllegalArgumentException,IllegalStateException",
        "int repay(int) throws IllegalArgumentException,IllegalStateException",
        "int pass(int) throws IllegalArgumentException",
        "int cash()",
        "int debt()",
        "int earned()",
        "int kind(int) throws IndexOutOfBoundsException",
        "int level(int) throws IndexOutOfBoundsException",
        "char sign(int,int) throws IndexOutOfBoundsException",
        "int net(int) throws IndexOutOfBoundsException",
        "int steps(int,int) throws IndexOutOfBoundsException",
        "boolean isServed(int) throws IndexOutOfBoundsException",
        "int placed(int) throws IndexOutOfBoundsException",
        "int traffic(int) throws IndexOutOfBoundsException",
        "int value(int) throws IndexOutOfBoundsException",
        "int powerLeft(int) throws IndexOutOfBoundsException",
        "int going(int,int) throws IndexOutOfBoundsException",
    };

    public static void main(String[] args) {
        Class<?> face = MillbrookBorough.class;
        Check.due("public and final", Modifier.toString(face.getModifiers()), "public final");
        List<String> got = new ArrayList<>();
        for (Method method : face.getDeclaredMethods()) {
            if (!Modifier.isPrivate(method.getModifiers())) {
                got.add(textOf(method));
            }
        }
        List<String> want = new ArrayList<>(Arrays.asList(METHODS));
        Collections.sort(got);
        Collections.sort(want);
        Check.due("the methods", got.toString(), want.toString());
        Check.due("the constructors", constructors(face), "[public MillbrookBorough()]");
        long open = Arrays.stream(face.getDeclaredFields())
                .filter(field -> !Modifier.isPrivate(field.getModifiers())).count();
        Check.due("fields that can be seen", open, 0);
        for (Method method : face.getDeclaredMethods()) {
            if (Modifier.isPublic(method.getModifiers())) {
                throwsWhatItSays(method);
            }
        }
        Check.end();
    }

    /** All pairs of numbers at and about the bounds: whatever a call throws is one of its own exceptions. */
    private static void throwsWhatItSays(Method method) {
        for (int first : NUMBERS) {
            MillbrookBorough[] towns = {
                new MillbrookBorough(), Towns.grown(Towns.HOMES, Towns.TRADES), Towns.drawn(0, "EEEEE"),
            };
            for (MillbrookBorough town : towns) {
                for (int second : NUMBERS) {
                    Class<?> thrown = thrownBy(method, town, first, second);
                    String call = method.getName() + "(" + first + ", " + second + ")";
                    Check.due(call + " throws " + thrown + ", one of its own", isItsOwn(method, thrown), true);
                }
            }
        }
    }

    private static boolean isItsOwn(Method method, Class<?> thrown) {
        return thrown == null || Arrays.asList(method.getExceptionTypes()).contains(thrown);
    }

    private static Class<?> thrownBy(Method method, MillbrookBorough town, int first, int second) {
        try {
            switch (method.getParameterCount()) {
                case 0:
                    method.invoke(town);
                    break;
                case 1:
                    method.invoke(town, first);
                    break;
                default:
                    boolean isFlag = method.getParameterTypes()[0] == boolean.class;
                    method.invoke(town, isFlag ? (Object) (first > 0) : (Object) first, second);
                    break;
            }
            return null;
        } catch (InvocationTargetException e) {
            return e.getCause().getClass();
        } catch (IllegalAccessException e) {
            return e.getClass();
        }
    }

    private static String constructors(Class<?> face) {
        List<String> texts = new ArrayList<>();
        for (Constructor<?> constructor : face.getDeclaredConstructors()) {
            texts.add(constructor.toString());
        }
        return texts.toString();
    }

    private static String textOf(Method method) {
        StringBuilder text = new StringBuilder();
        text.append(method.getReturnType().getName()).append(' ').append(method.getName());
        text.append('(').append(namesOf(method.getParameterTypes())).append(')');
        if (method.getExceptionTypes().length > 0) {
            text.append(" throws ").append(namesOf(method.getExceptionTypes()));
        }
        return text.toString();
    }

    private static String namesOf(Class<?>[] types) {
        List<String> names = new ArrayList<>();
        for (Class<?> type : types) {
            names.add(type.getSimpleName());
        }
        return String.join(",", names);
    }
}
