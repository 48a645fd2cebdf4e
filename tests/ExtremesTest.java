import java.lang.reflect.InvocationTargetException;
import java.lang.reflect.Method;
import java.lang.reflect.Modifier;
import java.util.Arrays;
import java.util.Comparator;
import java.util.Random;

/** No call throws, whatever its arguments and however things stand; and the same calls answer the same. */
public final class ExtremesTest {
    private static final int[] ODD = {Integer.MIN_VALUE, Integer.MIN_VALUE + 1, -1000, -2, -1, 0, 1, 2, 3, 5, 6, 7, 8, 9,
        11, 12, 13, 31, 32, 60, 61, 63, 64, 100, 511, 512, Integer.MAX_VALUE - 1, Integer.MAX_VALUE};

    /** What later calls of an object answer is free. */
    private static final int MOST_CALLS = 512;

    public static void main(String[] args) throws IllegalAccessException {
        Method[] methods = Arrays.stream(KeptPromises.class.getDeclaredMethods())
            .filter(m -> Modifier.isPublic(m.getModifiers())).sorted(Comparator.comparing(Method::getName))
            .toArray(Method[]::new);
        int wrong = 0;
        int calls = 0;
        for (int run = 0; run < 1000; run++) {
            Random r = new Random(run);
            KeptPromises x = new KeptPromises();
            KeptPromises twin = new KeptPromises();
            int used = 0;
            while (used < MOST_CALLS) {
                Method m = methods[r.nextInt(methods.length)];
                if (r.nextInt(12) == 0 && used < MOST_CALLS - 80) {
                    String text = Texts.madeUp(r, 5, 0);
                    Texts.promise(x, text);
                    Texts.promise(twin, text);
                    used += text.length() + 2;
                }
                Object[] with = new Object[m.getParameterCount()];
                for (int i = 0; i < with.length; i++) {
                    int v = r.nextBoolean() ? ODD[r.nextInt(ODD.length)] : r.nextInt(8);
                    if (m.getParameterTypes()[i] == long.class) with[i] = (long) v << r.nextInt(40);
                    else with[i] = v;
                }
                calls++;
                used++;
                try {
                    Object one = m.invoke(x, with);
                    Object two = m.invoke(twin, with);
                    if (!one.equals(two)) {
                        wrong++;
                        System.out.println(m.getName() + Arrays.toString(with) + " answered " + one + " and " + two);
                    }
                } catch (InvocationTargetException e) {
                    wrong++;
                    System.out.println(m.getName() + Arrays.toString(with) + " threw " + e.getCause());
                }
            }
        }
        System.out.println("ExtremesTest: " + calls + " calls, " + wrong + " wrong");
        if (wrong > 0) System.exit(1);
    }
}
