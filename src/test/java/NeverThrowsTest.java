import java.lang.reflect.InvocationTargetException;
import java.lang.reflect.Method;
import java.lang.reflect.Modifier;
import java.util.Arrays;
import java.util.Comparator;

/** Rule 7 of LANGUAGE.md: no call throws, for any arguments in any state. The runs are the same ones each time. */
public final class NeverThrowsTest {
    private static final int RUNS = 600;
    private static final int CALLS = 512;
    private static final int[] FAR = {-1, 5, 8, 9, 12, 13, 59, 60, 119, 120, 121, 127, 1000, 1001, -1000, 1000000, -1000000, 1000001,
        1 << 16, 1 << 24, Integer.MAX_VALUE, Integer.MIN_VALUE, Integer.MIN_VALUE + 1};
    private static final String CHARACTERS = "aabbcc++--0123 odd";

    private long seed;

    private NeverThrowsTest(int run) {
        seed = 7919L * run + 5;
    }

    public static void main(String[] args) throws IllegalAccessException {
        Method[] methods = Arrays.stream(ShuffleAlgebra.class.getDeclaredMethods())
                .filter(method -> Modifier.isPublic(method.getModifiers()))
                .sorted(Comparator.comparing(Method::getName)).toArray(Method[]::new);
        for (int run = 0; run < RUNS; run++) {
            new NeverThrowsTest(run).go(methods);
        }
        Check.finish();
    }

    private int below(int bound) {
        seed = seed * 6364136223846793005L + 1442695040888963407L;
        return (int) ((seed >>> 33) % bound);
    }

    private int argument(Method method) {
        if (method.getName().equals("appendCharacter") && below(10) > 0) {
            return CHARACTERS.charAt(below(CHARACTERS.length()));
        }
        return below(6) == 0 ? FAR[below(FAR.length)] : below(4);
    }

    private void go(Method[] methods) throws IllegalAccessException {
        ShuffleAlgebra x = below(2) == 0 ? new ShuffleAlgebra() : Boundaries.rich();
        for (int call = 0; call < CALLS; call++) {
            Method method = methods[below(methods.length)];
            Object[] arguments = new Object[method.getParameterCount()];
            for (int i = 0; i < arguments.length; i++) {
                arguments[i] = argument(method);
            }
            String name = method.getName() + Arrays.toString(arguments);
            try {
                method.invoke(x, arguments);
                Check.due(name, 0, 0);
            } catch (InvocationTargetException thrown) {
                Check.due(name, thrown.getCause().toString(), "an answer");
            }
        }
    }
}
