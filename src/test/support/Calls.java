import java.lang.reflect.InvocationTargetException;
import java.lang.reflect.Method;
import java.lang.reflect.Modifier;
import java.util.Arrays;
import java.util.Comparator;
import java.util.List;

/** The calls of the face, made by their names, so that a SeriesWatcher and a NaiveWatcher are asked alike. */
final class Calls {
    private static final List<String> CHANGING =
            List.of("add", "addMany", "correct", "setHoliday", "drop", "setSeason", "setCuts", "setBound");

    private Calls() {
    }

    static List<Method> changes() {
        return face().stream().filter(method -> CHANGING.contains(method.getName())).toList();
    }

    static List<Method> questions() {
        return face().stream().filter(method -> !CHANGING.contains(method.getName())).toList();
    }

    /** The answer as a text, or "throws " and the name of the exception's very class. */
    static String answer(Object object, Method call, Object... arguments) {
        try {
            Method own = object.getClass().getMethod(call.getName(), call.getParameterTypes());
            return String.valueOf(own.invoke(object, arguments));
        } catch (InvocationTargetException e) {
            return "throws " + e.getCause().getClass().getName();
        } catch (ReflectiveOperationException e) {
            throw new IllegalStateException(e);
        }
    }

    // Sorted, as the machine tells them in no order that it promises, and a run must be the same each time.
    private static List<Method> face() {
        return Arrays.stream(SeriesWatcher.class.getDeclaredMethods())
                .filter(method -> Modifier.isPublic(method.getModifiers()))
                .sorted(Comparator.comparing(Method::getName)).toList();
    }
}
