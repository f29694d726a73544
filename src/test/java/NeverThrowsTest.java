import java.lang.reflect.InvocationTargetException;
import java.lang.reflect.Method;
import java.util.Arrays;
import java.util.Comparator;
import java.util.Random;

/** Runs of 512 calls with arguments within and out of range: only element() throws, and two objects answer alike. */
public final class NeverThrowsTest {
    private static final Due due = new Due();
    private static final Random random = new Random(46);
    private static final int[] EDGES = {-1, 0, 1, 2, 3, 5, 6, 7, 8, 9, 10, 24, 25, 60, 61, 99, 100, 101, 128, 6060,
        -128, -32768, 999999, 1000000, Integer.MAX_VALUE, Integer.MIN_VALUE};

    public static void main(String[] args) {
        Method[] calls = BladeBetweenThumbs.class.getDeclaredMethods();
        calls = Arrays.stream(calls).filter(m -> java.lang.reflect.Modifier.isPublic(m.getModifiers()))
            .sorted(Comparator.comparing(Method::getName)).toArray(Method[]::new);
        for (int run = 0; run < 400; run++) {
            // A third of the runs start with a whole hedge, so that calls get further than their refusals.
            oneRun(calls, run % 3 == 0);
        }
        due.end();
    }

    private static BladeBetweenThumbs hedge(boolean whole) {
        return whole ? Due.told("b06103;b12220;b03101;t240;t530;k03;k25;k36;k49;k58;k62;") : new BladeBetweenThumbs();
    }

    private static void oneRun(Method[] calls, boolean whole) {
        BladeBetweenThumbs one = hedge(whole);
        BladeBetweenThumbs other = hedge(whole);
        for (int i = 0; i < 400; i++) {
            Method call = calls[random.nextInt(calls.length)];
            Object[] with = new Object[call.getParameterCount()];
            for (int j = 0; j < with.length; j++) {
                with[j] = random.nextInt(5) == 0 ? EDGES[random.nextInt(EDGES.length)] : random.nextInt(4);
            }
            String answer = answer(one, call, with);
            String said = call.getName() + Arrays.toString(with) + " answers " + answer;
            due.is(said + ", the same twice", answer.equals(answer(other, call, with)) ? 1 : 0, 1);
            boolean mayThrow = call.getName().equals("element") && (answer.equals("IllegalArgumentException")
                || answer.equals("IllegalStateException"));
            due.is(said, answer.endsWith("Exception") && !mayThrow ? 1 : 0, 0);
        }
    }

    private static String answer(BladeBetweenThumbs x, Method call, Object[] with) {
        try {
            return String.valueOf(call.invoke(x, with));
        } catch (InvocationTargetException e) {
            return e.getCause().getClass().getSimpleName();
        } catch (IllegalAccessException e) {
            return "no access";
        }
    }
}
