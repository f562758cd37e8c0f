import java.lang.reflect.InvocationTargetException;
import java.lang.reflect.Method;

/** Calls methods by their names. */
final class ByName {
    private ByName() {
    }

    /** The answer as a text; what the call throws instead, if it throws. */
    static String ask(Object asked, String name, Object... arguments) {
        try {
            return String.valueOf(methodOf(asked, name).invoke(asked, arguments));
        } catch (InvocationTargetException thrown) {
            return "throws " + thrown.getCause().getClass().getName();
        } catch (IllegalAccessException thrown) {
            throw new IllegalStateException(thrown);
        }
    }

    private static Method methodOf(Object asked, String name) {
        for (Method method : asked.getClass().getMethods()) {
            if (method.getName().equals(name)) {
                return method;
            }
        }
        throw new IllegalStateException("no method " + name);
    }
}
