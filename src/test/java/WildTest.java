import java.lang.reflect.Method;
import java.lang.reflect.Modifier;
import java.util.Arrays;
import java.util.Comparator;
import java.util.Random;

/**
 * Any call with any arguments in any state: the least and the greatest ints, the edges of every limit
 * and one step to each side of them. No call throws (a test that is thrown out of fails), and the Twin
 * answers the same.
 */
public final class WildTest {
    private static final int RUNS = 60;
    private static final int CALLS = 512;
    private static final int[] EDGES = {0, 1, 4, 5, 6, 7, 9, 10, 13, 20, 52, 99, 100, 103, 104, 249, 250, 727, 728, 880, 881, 900, 999,
        1000, 9999, 10000, 99999, 100000, 999999, 1000000, Integer.MAX_VALUE, Integer.MIN_VALUE};
    private static final String[] TEXTS = {"counts base 100 when 1;empty when total=0;days 1;", "counts base 50 when habit base<3;late 999;",
        "counts sales 1 when 1;counts base 9 when 1;weeks 52;interest 999;late 999;chain 999;", "weeks 53;", "&"};

    private final Random dice;
    private final RestPay office = new RestPay();
    private final Twin twin = new Twin();
    private final int run;

    private WildTest(int run) {
        this.run = run;
        dice = new Random(1000 + run);
    }

    public static void main(String[] args) throws ReflectiveOperationException {
        Method[] methods = RestPay.class.getDeclaredMethods();
        methods = Arrays.stream(methods).filter(m -> Modifier.isPublic(m.getModifiers()))
                .sorted(Comparator.comparing(Method::getName)).toArray(Method[]::new);
        for (int run = 0; run < RUNS; run++) {
            new WildTest(run).go(methods);
        }
        Check.end("WildTest");
    }

    private void go(Method[] methods) throws ReflectiveOperationException {
        for (int call = 0; call < CALLS; call++) {
            if (call % 100 == 0) {
                text(TEXTS[dice.nextInt(TEXTS.length)]);
            }
            Method method = methods[dice.nextInt(methods.length)];
            // no questions at first, so that there is something to ask about
            while (call < 200 && isQuestion(method)) {
                method = methods[dice.nextInt(methods.length)];
            }
            call(method, call);
        }
    }

    /** Whether it is asked by lows or by highs. */
    private static boolean isQuestion(Method method) {
        return Arrays.asList(method.getParameterTypes()).contains(boolean.class) && !method.getName().equals("worker");
    }

    /** Puts a text on the TAPE of both and reads it. */
    private void text(String text) {
        office.end(0);
        twin.end(0);
        Check.put(office, text);
        twin.tape.append(text);
        int shelf = dice.nextInt(4);
        Check.same("act of " + text, office.act(shelf), twin.act(shelf));
    }

    private void call(Method method, int call) throws ReflectiveOperationException {
        Class<?>[] types = method.getParameterTypes();
        Object[] values = new Object[types.length];
        boolean wild = dice.nextInt(3) == 0;
        for (int i = 0; i < values.length; i++) {
            values[i] = types[i] == boolean.class ? (Object) dice.nextBoolean() : (Object) number(wild && dice.nextBoolean());
        }
        Object got = method.invoke(office, values);
        Object due = method.getName().equals("feed") ? twin.feed(Arrays.stream(values).mapToInt(v -> (Integer) v).toArray())
                : Twin.class.getDeclaredMethod(method.getName(), types).invoke(twin, values);
        Check.same("run " + run + " call " + call + " " + method.getName() + Arrays.toString(values), asLong(got), asLong(due));
    }

    private int number(boolean wild) {
        if (!wild) {
            return dice.nextInt(dice.nextInt(4) == 0 ? 250 : 8);
        }
        return EDGES[dice.nextInt(EDGES.length)] * (dice.nextInt(6) == 0 ? -1 : 1) + dice.nextInt(3) - 1;
    }

    private static long asLong(Object answer) {
        return answer instanceof Boolean truth ? (truth ? 1 : 0) : ((Number) answer).longValue();
    }
}
