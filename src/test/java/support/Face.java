import java.lang.reflect.InvocationTargetException;
import java.lang.reflect.Method;
import java.lang.reflect.Modifier;
import java.util.HashMap;
import java.util.Map;

/** Calls of the class by name, for tests that hold tables of calls. */
final class Face {
    private final Map<String, Method> methods = new HashMap<>();

    Face() {
        for (Method method : HoarseHill.class.getDeclaredMethods()) {
            if (Modifier.isPublic(method.getModifiers())) {
                methods.put(method.getName(), method);
            }
        }
    }

    int size() {
        return methods.size();
    }

    int call(HoarseHill x, String name, int... arguments) {
        Object[] boxed = new Object[arguments.length];
        for (int k = 0; k < arguments.length; k++) {
            boxed[k] = arguments[k];
        }
        try {
            return (Integer) methods.get(name).invoke(x, boxed);
        } catch (IllegalAccessException | InvocationTargetException e) {
            throw new IllegalStateException(name + " threw", e);
        }
    }
}
