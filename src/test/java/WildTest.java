import java.lang.reflect.InvocationTargetException;
import java.lang.reflect.Method;
import java.util.Arrays;
import java.util.Comparator;
import java.util.Random;

/** Calls with any numbers in any state: none throws, and none answers below what the document has. */
public final class WildTest {
    private static final int RUNS = 250;
    /** With the texts that are told between them they stay within 512. */
    private static final int CALLS = 300;
    private static final int LEAST = -10 - 400;
    private static final int[] EDGES = {Integer.MIN_VALUE, Integer.MIN_VALUE + 9, -129, -20, -10, -2, -1, 0, 1, 2, 3, 4,
        5, 6, 7, 8, 9, 10, 11, 13, 14, 16, 17, 39, 40, 41, 50, 51, 60, 61, 99, 100, 127, 128, 130, 131, 255, 392, 400,
        401, 999, 1000, 32768, 65536, Integer.MAX_VALUE - 9, Integer.MAX_VALUE};
    private static final String[] TEXTS = {
        "", "law 1;counters 2;", "one plain 0 1 1 1;",
        "one rich 0 9 9 50;one rich 0 9 9 50;one rich 60 9 9 50;debt 0 1 99;",
        "one son 1 0 9 9 50;one son 2 0 9 9 50;one son 0 0 9 9 50;debt 0 1 9;debt 1 2 9;debt 2 0 9;",
        "one payer 0 9 9 50;one payer 0 9 9 50;one payer 0 9 9 50;one proud 0 9 9 50;one son 0 1 9 9 50;"
            + "one plain 2 9 9 50;one plain 3 9 9 50;debt 0 1 9;debt 1 2 9;debt 0 5 9;debt 1 6 50;debt 4 6 9;",
        "one plain 0 1 1", "debt 0 1 1;", "\u00ff\u0000"};

    public static void main(String[] args) throws Exception {
        Check check = new Check("WildTest");
        Method[] calls = Arrays.stream(LetsIn.class.getDeclaredMethods())
                .filter(m -> java.lang.reflect.Modifier.isPublic(m.getModifiers()))
                .sorted(Comparator.comparing(Method::getName)).toArray(Method[]::new);
        for (int seed = 0; seed < RUNS; seed++) {
            wild(check, calls, new Random(seed));
        }
        check.finish();
    }

    private static void wild(Check check, Method[] calls, Random random) throws Exception {
        LetsIn x = new LetsIn();
        for (int i = 0; i < CALLS; i++) {
            if (i % 100 == 0) {
                x.end(0);
                Check.tell(x, TEXTS[random.nextInt(TEXTS.length)]);
            }
            Method call = calls[random.nextInt(calls.length)];
            Object[] with = new Object[call.getParameterCount()];
            for (int j = 0; j < with.length; j++) {
                int v = random.nextInt(3) > 0 ? random.nextInt(8) : EDGES[random.nextInt(EDGES.length)];
                with[j] = call.getParameterTypes()[j] == long.class ? (Object) random.nextLong() : (Object) v;
            }
            try {
                int answer = (Integer) call.invoke(x, with);
                check.holds(call.getName() + Arrays.toString(with) + " answered " + answer, answer >= LEAST);
            } catch (InvocationTargetException e) {
                check.holds(call.getName() + Arrays.toString(with) + " threw " + e.getCause(), false);
            }
        }
    }
}
