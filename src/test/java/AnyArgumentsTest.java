import java.lang.reflect.InvocationTargetException;
import java.lang.reflect.Method;
import java.lang.reflect.Modifier;
import java.util.Arrays;
import java.util.Comparator;
import java.util.Random;

/**
 * Calls with any arguments in any state, far beyond the 512 whose answers are promised: none throws. What they
 * answer is held against the plain model elsewhere.
 */
public final class AnyArgumentsTest extends Bench {
    private static final int OBJECTS = 40;
    private static final int CALLS = 8000;
    private static final int[] FAR = {LOW, LOW + 1, LOW + 11, -1000000, -100, -9, -2, -1, 20, 21, 40, 41, 99, 100,
        200, 201, 500, 501, 999, 2000, 2001, 3000, 3001, 100000, 100001, 1 << 30, HIGH - 20, HIGH - 1, HIGH};

    private AnyArgumentsTest() { }

    public static void main(String[] args) throws IllegalAccessException {
        Method[] calls = DrawLooms.class.getDeclaredMethods();
        calls = Arrays.stream(calls).filter(call -> Modifier.isPublic(call.getModifiers())).toArray(Method[]::new);
        Arrays.sort(calls, Comparator.comparing(Method::getName));
        due.about("rule 7");
        due.is("calls of the face", calls.length, 37);
        for (int seed = 0; seed < OBJECTS; seed++) {
            run(calls, new Random(seed), new DrawLooms());
        }
        due.finish();
    }

    private static void run(Method[] calls, Random random, DrawLooms x) throws IllegalAccessException {
        for (int i = 0; i < CALLS; i++) {
            Method call = calls[random.nextInt(calls.length)];
            Object[] a = new Object[call.getParameterCount()];
            for (int k = 0; k < a.length; k++) {
                a[k] = call.getParameterTypes()[k] == boolean.class ? (Object) random.nextBoolean() : number(random);
            }
            try {
                call.invoke(x, a);
                due.is(call.getName(), 0, 0);
            } catch (InvocationTargetException thrown) {
                due.is(call.getName() + Arrays.toString(a) + " threw " + thrown.getCause(), 1, 0);
            }
        }
    }

    private static Integer number(Random random) {
        switch (random.nextInt(8)) {
            case 0: return FAR[random.nextInt(FAR.length)];
            case 1: return random.nextInt();
            case 2: return random.nextInt(3100);
            default: return random.nextInt(random.nextBoolean() ? 4 : 21);
        }
    }
}
