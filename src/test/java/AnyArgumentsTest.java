import java.lang.reflect.InvocationTargetException;
import java.lang.reflect.Method;
import java.util.Arrays;
import java.util.Comparator;
import java.util.Random;

/** No call ever throws, whatever the arguments, in whatever state; like calls answer alike. */
public final class AnyArgumentsTest {
    private static final int[] EDGES = {Integer.MIN_VALUE, Integer.MIN_VALUE + 1, -1000001, -64, -2,
        -1, 0, 1, 2, 3, 4, 5, 6, 10, 15, 16, 23, 24, 39, 40, 59, 60, 61, 63, 64, 99, 100, 199, 200,
        239, 240, 450, 500, 501, 599, 600, 900, 2000, 8000, 8001, 1000000, Integer.MAX_VALUE - 99,
        Integer.MAX_VALUE};

    public static void main(String[] args) throws IllegalAccessException {
        Due due = new Due("AnyArgumentsTest");
        Method[] methods = SugarKitchen.class.getDeclaredMethods();
        methods = Arrays.stream(methods)
                .filter(m -> java.lang.reflect.Modifier.isPublic(m.getModifiers()))
                .toArray(Method[]::new);
        Arrays.sort(methods, Comparator.comparing(Method::getName));
        due.is("methods of the face", 31, methods.length);
        for (int seed = 0; seed < 300; seed++) {
            Random random = new Random(seed);
            SugarKitchen one = started(seed);
            SugarKitchen two = started(seed);
            for (int i = 0; i < 400; i++) {
                Method method = methods[random.nextInt(methods.length)];
                Object[] given = arguments(method, random);
                String call = method.getName() + Arrays.toString(given);
                due.is(seed + ": " + call, answer(method, one, given, call, due),
                        answer(method, two, given, call, due));
            }
        }
        due.end();
    }

    private static SugarKitchen started(int seed) {
        SugarKitchen k = new SugarKitchen();
        if (seed % 2 == 0) {
            k.lot(1000000, 255);
            for (int kind = 0; kind < 6; kind++) {
                int b = k.batch(kind);
                k.put(b, 0, 100000);
                k.row(b, 0, 60);
                k.cook(b, 60);
                k.vouch(b);
            }
            k.cut(3, 100, 50);
            k.cut(4, 37, 50);
            for (int i = 0; i < 60; i++) {
                k.place(i + 20, i / 24, i % 24);
            }
        }
        return k;
    }

    private static Object[] arguments(Method method, Random random) {
        Class<?>[] types = method.getParameterTypes();
        Object[] given = new Object[types.length];
        for (int i = 0; i < types.length; i++) {
            if (types[i] == boolean.class) {
                given[i] = random.nextBoolean();
            } else {
                int kind = random.nextInt(3);
                given[i] = kind == 0 ? random.nextInt(7) : kind == 1
                        ? EDGES[random.nextInt(EDGES.length)] : random.nextInt();
            }
        }
        return given;
    }

    private static long answer(Method method, SugarKitchen k, Object[] given, String call, Due due)
            throws IllegalAccessException {
        try {
            Object got = method.invoke(k, given);
            return got instanceof Boolean ? (Boolean) got ? 1 : 0 : (Integer) got;
        } catch (InvocationTargetException thrown) {
            due.is(call + " threw " + thrown.getCause(), 0, 1);
            return 0;
        }
    }
}
