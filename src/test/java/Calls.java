import java.lang.reflect.InvocationTargetException;
import java.lang.reflect.Method;

/** Calls that are told by their names and numbers. */
final class Calls {
    private Calls() {
    }

    /** The answer, or the name of what the call throws. A boolean is told as 1 or 0. */
    static String answer(BoxSearch x, String name, String[] numbers) throws IllegalAccessException {
        Method m = byName(name);
        Class<?>[] types = m.getParameterTypes();
        if (types.length != numbers.length) {
            throw new IllegalStateException(name + " takes " + types.length + " numbers");
        }
        Object[] arguments = new Object[numbers.length];
        for (int i = 0; i < numbers.length; i++) {
            int n = Integer.parseInt(numbers[i]);
            arguments[i] = types[i] == boolean.class ? (Object) (n != 0) : (Object) n;
        }
        try {
            return m.invoke(x, arguments).toString();
        } catch (InvocationTargetException e) {
            return e.getCause().getClass().getSimpleName();
        }
    }

    private static Method byName(String name) {
        for (Method m : BoxSearch.class.getMethods()) {
            if (m.getDeclaringClass() == BoxSearch.class && m.getName().equals(name)) {
                return m;
            }
        }
        throw new IllegalStateException("no call " + name);
    }
}
