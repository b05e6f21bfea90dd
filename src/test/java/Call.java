import java.lang.reflect.InvocationTargetException;
import java.lang.reflect.Method;
import java.util.Arrays;
import java.util.HashMap;
import java.util.Map;

/** A call by its name: what is told of it in a message is then what is called. */
final class Call {
    private static final Map<Class<?>, Map<String, Method>> METHODS = new HashMap<>();

    final String name;
    final int[] arguments;

    Call(String name, int... arguments) {
        this.name = name;
        this.arguments = arguments;
    }

    /** The answer, or the simple name of the exception. */
    String on(Object object) {
        try {
            Object[] boxed = Arrays.stream(arguments).boxed().toArray();
            return String.valueOf(method(object.getClass(), name).invoke(object, boxed));
        } catch (InvocationTargetException thrown) {
            return thrown.getCause().getClass().getSimpleName();
        } catch (IllegalAccessException impossible) {
            throw new IllegalStateException(impossible);
        }
    }

    static String answer(Object object, String name, int... arguments) {
        return new Call(name, arguments).on(object);
    }

    static Method method(Class<?> owner, String name) {
        return METHODS.computeIfAbsent(owner, Call::methods).get(name);
    }

    private static Map<String, Method> methods(Class<?> owner) {
        Map<String, Method> found = new HashMap<>();
        for (Method each : owner.getDeclaredMethods()) {
            each.setAccessible(true);
            found.put(each.getName(), each);
        }
        return found;
    }

    @Override
    public String toString() {
        String told = Arrays.toString(arguments);
        return name + "(" + told.substring(1, told.length() - 1) + ")";
    }
}
