import java.lang.reflect.InvocationTargetException;
import java.lang.reflect.Method;
import java.lang.reflect.Modifier;
import java.util.HashMap;
import java.util.Map;

/** A call of the class with its arguments, which can be made on any object. */
record Call(Method method, Object[] arguments) {
    private static final Map<String, Method> METHODS = new HashMap<>();

    static {
        for (Method method : FlightLegs.class.getDeclaredMethods()) {
            if (Modifier.isPublic(method.getModifiers())) {
                METHODS.put(method.getName(), method);
            }
        }
    }

    static Call of(String name, Object... arguments) {
        Method method = METHODS.get(name);
        if (method == null || method.getParameterCount() != arguments.length) {
            throw new IllegalArgumentException("no such call: " + name);
        }
        return new Call(method, arguments);
    }

    /** The types that the arguments of a call must have: int or boolean. */
    static Class<?>[] types(String name) {
        Method method = METHODS.get(name);
        return method == null ? new Class<?>[0] : method.getParameterTypes();
    }

    int on(FlightLegs computer) {
        try {
            return (Integer) method.invoke(computer, arguments);
        } catch (InvocationTargetException e) {
            throw new IllegalStateException(this + " threw", e.getCause());
        } catch (IllegalAccessException e) {
            throw new IllegalStateException(e);
        }
    }

    @Override
    public String toString() {
        StringBuilder text = new StringBuilder(method.getName()).append('(');
        for (int i = 0; i < arguments.length; i++) {
            text.append(i == 0 ? "" : ", ").append(arguments[i]);
        }
        return text.append(')').toString();
    }
}
