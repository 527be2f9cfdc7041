import java.lang.reflect.InvocationTargetException;
import java.lang.reflect.Method;
import java.util.Arrays;

/** Calls by name, so that tables of them can be gone through. */
final class Calls {
    private Calls() {
    }

    /** What a call answers; a boolean counts 1 or 0. */
    static long answer(NetsCut x, Method method, int... arguments) {
        try {
            Object answer = method.invoke(x, Arrays.stream(arguments).boxed().toArray());
            return answer instanceof Boolean is ? (is ? 1 : 0) : ((Number) answer).longValue();
        } catch (InvocationTargetException e) {
            throw new AssertionError(told(method.getName(), arguments) + " threw", e.getCause());
        } catch (IllegalAccessException e) {
            throw new AssertionError(e);
        }
    }

    static long answer(NetsCut x, String name, int... arguments) {
        for (Method method : NetsCut.class.getMethods()) {
            if (method.getName().equals(name) && method.getParameterCount() == arguments.length) {
                return answer(x, method, arguments);
            }
        }
        throw new AssertionError("no " + told(name, arguments));
    }

    static String told(String name, int... arguments) {
        String list = Arrays.toString(arguments);
        return name + "(" + list.substring(1, list.length() - 1) + ")";
    }
}
