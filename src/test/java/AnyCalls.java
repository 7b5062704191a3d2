import java.lang.reflect.InvocationTargetException;
import java.lang.reflect.Method;
import java.lang.reflect.Modifier;
import java.util.Arrays;
import java.util.Comparator;
import java.util.Random;

/** Drawn calls of the face with any numbers: small ones for the most part, and now and then edges. */
final class AnyCalls {
    private static final int MAKERS_AHEAD = 40;
    private static final int[] EDGES = {Integer.MIN_VALUE, Integer.MIN_VALUE + 1, -1000000001, -1000000000, -101, -100, -14, -13, -12, -10,
        -9, -5, -4, -3, -2, -1, 4, 5, 6, 7, 8, 9, 10, 11, 12, 13, 39, 40, 41, 48, 49, 100, 101, 255, 256, 117648, 117649, 1000000000,
        1000000001, Integer.MAX_VALUE - 1, Integer.MAX_VALUE};
    private static final String[] MAKERS = {"machine", "set", "set", "set", "set", "series", "side", "back", "part", "sheet", "cell"};
    private static final Method[] CALLS = publicCalls();

    private final Random random;
    private final int oneInEdges;
    private int drawn = 0;
    private Method call;
    private Object[] numbers;

    AnyCalls(int seed) {
        random = new Random(seed);
        oneInEdges = seed % 3 == 0 ? 3 : 12;
    }

    private static Method[] publicCalls() {
        return Arrays.stream(SteerBench.class.getDeclaredMethods()).filter(m -> Modifier.isPublic(m.getModifiers()))
            .sorted(Comparator.comparing(Method::getName)).toArray(Method[]::new);
    }

    /** Ahead of all else come calls that make something to ask about. */
    void next() {
        call = drawn < MAKERS_AHEAD ? named(MAKERS[random.nextInt(MAKERS.length)]) : CALLS[random.nextInt(CALLS.length)];
        drawn++;
        Class<?>[] types = call.getParameterTypes();
        numbers = new Object[types.length];
        for (int i = 0; i < types.length; i++) {
            int v = random.nextInt(oneInEdges) == 0 ? EDGES[random.nextInt(EDGES.length)] : random.nextInt(4);
            if (types[i] == long.class) numbers[i] = random.nextInt(4) == 0 ? random.nextLong() : (long) v;
            else numbers[i] = v;
        }
    }

    private static Method named(String name) {
        return Arrays.stream(CALLS).filter(m -> m.getName().equals(name)).findFirst().orElseThrow();
    }

    String name() {
        return call.getName();
    }

    boolean answersLong() {
        return call.getReturnType() == long.class;
    }

    String text() {
        return call.getName() + Arrays.toString(numbers);
    }

    long answerOf(SteerBench bench) throws InvocationTargetException, IllegalAccessException {
        return ((Number) call.invoke(bench, numbers)).longValue();
    }
}
