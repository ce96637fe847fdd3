import java.lang.reflect.InvocationTargetException;
import java.lang.reflect.Method;
import java.util.HashMap;
import java.util.Map;

/** Calls told as texts, such as "fill 0 12 3 7" (a flag as 0 or 1), made on whatever object has them. */
final class Calls {
    private static final Map<Class<?>, Map<String, Method>> METHODS = new HashMap<>();

    private Calls() {
    }

    static void makeAll(Object target, String... calls) throws Exception {
        for (String call : calls) {
            String[] words = call.split(" ");
            int[] numbers = new int[words.length - 1];
            for (int i = 0; i < numbers.length; i++) {
                numbers[i] = Integer.parseInt(words[i + 1]);
            }
            answer(target, words[0], numbers);
        }
    }

    /** What the call answers, or the class of what it throws. */
    static Object answer(Object target, String name, int... numbers) throws Exception {
        Method method = METHODS.computeIfAbsent(target.getClass(), face -> new HashMap<>())
                .computeIfAbsent(name, key -> found(target.getClass(), key));
        Class<?>[] types = method.getParameterTypes();
        Object[] given = new Object[numbers.length];
        for (int i = 0; i < given.length; i++) {
            given[i] = types[i] == boolean.class ? (Object) (numbers[i] == 1) : (Object) numbers[i];
        }
        try {
            return method.invoke(target, given);
        } catch (InvocationTargetException e) {
            return e.getCause().getClass();
        }
    }

    /** The one of that name whose arguments are numbers and flags alone. */
    private static Method found(Class<?> face, String name) {
        for (Method method : face.getDeclaredMethods()) {
            boolean isPlain = true;
            for (Class<?> type : method.getParameterTypes()) {
                isPlain &= type.isPrimitive();
            }
            if (isPlain && method.getName().equals(name)) {
                method.setAccessible(true);
                return method;
            }
        }
        throw new IllegalStateException("no call " + name);
    }
}
