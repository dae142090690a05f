import java.lang.reflect.InvocationTargetException;
import java.lang.reflect.Method;
import java.util.Arrays;
import java.util.HashMap;
import java.util.Map;
import java.util.NoSuchElementException;
import java.util.Set;

/** Calls of the face by their names: a boolean is told and answered as 1 or 0. */
final class Calls {
    /** Stands for the answer of a call that throws NoSuchElementException. */
    static final long THROWS = Long.MIN_VALUE;
    /** The calls of which no number is told, so that they never change the trouble. */
    static final Set<String> NEVER_REFUSED = Set.of("feed", "fault", "where", "led", "size", "trouble");
    private static final Map<String, Method> FACE = new HashMap<>();

    static {
        for (Method method : SaltedGate.class.getMethods()) {
            if (method.getDeclaringClass() == SaltedGate.class) {
                FACE.put(method.getName(), method);
            }
        }
    }

    private Calls() {
    }

    static long call(SaltedGate x, String name, int... numbers) {
        Method method = FACE.get(name);
        Class<?>[] types = method.getParameterTypes();
        Object[] given = new Object[numbers.length];
        for (int i = 0; i < numbers.length; i++) {
            given[i] = numbers[i];
            if (types[i] == boolean.class) {
                given[i] = numbers[i] != 0;
            }
        }
        try {
            Object answer = method.invoke(x, given);
            return answer instanceof Boolean ? ((Boolean) answer ? 1 : 0) : ((Number) answer).longValue();
        } catch (InvocationTargetException thrown) {
            if (thrown.getCause() instanceof NoSuchElementException) {
                return THROWS;
            }
            throw new IllegalStateException(tell(name, numbers), thrown.getCause());
        } catch (IllegalAccessException hidden) {
            throw new IllegalStateException(hidden);
        }
    }

    static String tell(String name, int... numbers) {
        return name + Arrays.toString(numbers).replace('[', '(').replace(']', ')');
    }
}
