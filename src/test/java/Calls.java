import java.lang.reflect.InvocationTargetException;
import java.lang.reflect.Method;
import java.util.Arrays;

/** Calls by their names, on the class or on its model; a boolean counts 1 or 0. */
final class Calls {
    private Calls() {
    }

    static String answer(Object target, String name, Object... args) {
        try {
            Object answer = methodOf(target.getClass(), name).invoke(target, args);
            return answer instanceof Boolean b ? b ? "1" : "0" : answer.toString();
        } catch (InvocationTargetException e) {
            return "throws." + e.getCause().getClass().getSimpleName();
        } catch (IllegalAccessException e) {
            return e.toString();
        }
    }

    static Method methodOf(Class<?> type, String name) {
        boolean isModel = type == Model.class;
        for (Method m : isModel ? type.getDeclaredMethods() : type.getMethods()) {
            boolean ints = Arrays.stream(m.getParameterTypes()).allMatch(t -> t == int.class);
            if (m.getName().equals(name) && ints) {
                return m;
            }
        }
        throw new IllegalStateException(name);
    }
}
