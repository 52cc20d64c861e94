import java.lang.reflect.InvocationTargetException;
import java.lang.reflect.Method;
import java.util.Arrays;
import java.util.Comparator;

/** Many runs of mixed calls, right and wrong ones, on the class and on the model, side by side. */
public final class RandomRunsTest {
    private static final int RUNS = 3000;
    private static final int CALLS = 250;
    private static final int[] ODD = {
        -1, -2, Integer.MIN_VALUE, Integer.MAX_VALUE, 3, 4, 7, 8, 15, 16, 17, 128, 254, 255, 256, 257, 512
    };

    // A row of numbers that is the same each time, so that a fault comes again.
    private static long seed = 20261118L;

    private static int below(int bound) {
        seed = seed * 6364136223846793005L + 1442695040888963407L;
        return (int) ((seed >>> 33) % bound);
    }

    private static Object[] argumentsFor(Method call) {
        Class<?>[] types = call.getParameterTypes();
        Object[] arguments = new Object[types.length];
        int style = below(9);
        for (int i = 0; i < types.length; i++) {
            if (types[i] == boolean.class) {
                arguments[i] = below(2) == 1;
            } else {
                arguments[i] = argument(style, i);
            }
        }
        return arguments;
    }

    private static int argument(int style, int place) {
        switch (style) {
            case 0: case 1:
                return below(4);
            case 2: case 3:
                return below(8);
            case 4:
                return below(18) - 1;
            case 5: case 6:
                return place == 0 ? below(8) : below(256);
            case 7:
                return below(256);
            default:
                return below(2) == 0 ? below(4) : ODD[below(ODD.length)];
        }
    }

    private static Object outcome(Object on, Method call, Object[] arguments) throws IllegalAccessException {
        try {
            return call.invoke(on, arguments);
        } catch (InvocationTargetException e) {
            return e.getCause().getClass().getName();
        }
    }

    public static void main(String[] args) throws ReflectiveOperationException {
        Method[] calls = Gamefield.class.getDeclaredMethods();
        calls = Arrays.stream(calls)
                .filter(m -> java.lang.reflect.Modifier.isPublic(m.getModifiers()))
                .sorted(Comparator.comparing(Method::getName))
                .toArray(Method[]::new);
        Checks.due("number of calls", calls.length, 41);
        for (int run = 0; run < RUNS; run++) {
            Gamefield x = new Gamefield();
            Model model = new Model();
            for (int i = 0; i < CALLS; i++) {
                Method call = calls[below(calls.length)];
                // Emptying calls come seldom, or there is little to see.
                if (call.getName().matches("clear|sweep|close|scale") && below(3) > 0) {
                    continue;
                }
                Object[] arguments = argumentsFor(call);
                Method same = Model.class.getMethod(call.getName(), call.getParameterTypes());
                String told = "run " + run + ", call " + i + ": " + call.getName() + Arrays.toString(arguments);
                Checks.due(told, outcome(x, call, arguments), outcome(model, same, arguments));
                Checks.due("checksum() behind " + told, x.checksum(), model.checksum());
            }
        }
        Checks.finish("RandomRunsTest");
    }
}
