import java.lang.reflect.InvocationTargetException;
import java.lang.reflect.Method;
import java.lang.reflect.Modifier;
import java.util.ArrayList;
import java.util.Comparator;
import java.util.List;
import java.util.Random;

/** No call throws, for any arguments in any state: ends and neighbours of all that is taken, on objects of all sorts. */
public final class AnyArgumentsTest {
    private static final int OBJECTS = 1200, CALLS_LEFT = 300;
    private static final long[] VALUES = {
        Integer.MIN_VALUE, Integer.MIN_VALUE + 1, -3030, -129, -128, -101, -8, -3, -2, -1, 0, 1, 2, 3, 4, 5, 6, 7, 8, 9, 10, 11, 12, 13, 23, 24, 25,
        40, 49, 50, 59, 60, 61, 93, 95, 96, 99, 100, 101, 119, 120, 121, 127, 128, 255, 256, 3030, 3131, 4095, 4096, 9999, 10000,
        Integer.MAX_VALUE - 1, Integer.MAX_VALUE
    };

    public static void main(String[] args) throws ReflectiveOperationException {
        List<Method> calls = calls();
        Check.due("calls of the document", calls.size(), 42);
        Random random = new Random(41);
        for (int k = 0; k < OBJECTS; k++) {
            LotNobodyWants x = k % 3 == 0 ? new LotNobodyWants() : k % 3 == 1 ? Scenes.busy() : Scenes.full();
            for (int c = 0; c < CALLS_LEFT && Check.wrongOnes() == 0; c++) {
                call(x, calls.get(random.nextInt(calls.size())), random);
            }
        }
        Check.finish();
    }

    private static List<Method> calls() {
        List<Method> calls = new ArrayList<>();
        for (Method m : LotNobodyWants.class.getDeclaredMethods()) {
            if (Modifier.isPublic(m.getModifiers())) {
                calls.add(m);
            }
        }
        calls.sort(Comparator.comparing(Method::getName));
        return calls;
    }

    private static void call(LotNobodyWants x, Method m, Random random) throws ReflectiveOperationException {
        Object[] arguments = new Object[m.getParameterCount()];
        StringBuilder text = new StringBuilder(m.getName());
        for (int k = 0; k < arguments.length; k++) {
            long v = random.nextInt(3) == 0 ? random.nextInt(8) : VALUES[random.nextInt(VALUES.length)];
            boolean wide = m.getParameterTypes()[k] == long.class;
            arguments[k] = wide ? (Object) (v << 32 * random.nextInt(2)) : (Object) (int) v;
            text.append(' ').append(arguments[k]);
        }
        int thrown = 0;
        try {
            m.invoke(x, arguments);
        } catch (InvocationTargetException e) {
            thrown = 1;
            text.append(" by ").append(e.getCause());
        }
        Check.due("throws: " + text, thrown, 0);
    }
}
