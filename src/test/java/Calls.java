import java.lang.reflect.InvocationTargetException;
import java.lang.reflect.Method;

/** Carries out a call that is written as a text, as the document and README.md write them. */
final class Calls {
    private Calls() {
    }

    /** Such as "setField(0,0,258L)"; only public methods are found. */
    static long answer(StructureEditor x, String call) {
        int open = call.indexOf('(');
        int close = call.lastIndexOf(')');
        if (open < 0 || close < open) {
            throw new IllegalArgumentException("no call: " + call);
        }
        String inside = call.substring(open + 1, close).trim();
        String[] written = inside.isEmpty() ? new String[0] : inside.split(",");
        Method method = method(call.substring(0, open).trim(), written.length);
        Object[] arguments = new Object[written.length];
        for (int i = 0; i < written.length; i++) {
            arguments[i] = argument(written[i].trim(), method.getParameterTypes()[i]);
        }
        try {
            return ((Number) method.invoke(x, arguments)).longValue();
        } catch (IllegalAccessException | InvocationTargetException failed) {
            throw new IllegalStateException(call + " failed", failed);
        }
    }

    private static Method method(String name, int arguments) {
        for (Method method : StructureEditor.class.getMethods()) {
            if (method.getName().equals(name) && method.getParameterCount() == arguments) {
                return method;
            }
        }
        throw new IllegalArgumentException("there is no public method " + name + " of " + arguments + " arguments");
    }

    private static Object argument(String written, Class<?> type) {
        if (type == boolean.class) {
            return Boolean.valueOf(written.equals("true"));
        }
        if (type == long.class) {
            return Long.valueOf(written.endsWith("L") ? written.substring(0, written.length() - 1) : written);
        }
        return Integer.valueOf(written);
    }
}
