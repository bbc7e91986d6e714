import java.lang.reflect.InvocationTargetException;
import java.lang.reflect.Method;
import java.util.Arrays;
import java.util.Comparator;
import java.util.Random;

/** No call throws, whatever its numbers; what is refused changes nothing. */
public final class AnyNumbersTest {
    private static final Due due = new Due();
    private static final Random random = new Random(9);
    private static final int[] EDGES = {Integer.MIN_VALUE, Integer.MIN_VALUE + 1, -1000000, -32768, -64, -7, -6, -2, -1,
        0, 1, 2, 3, 4, 5, 6, 7, 8, 9, 10, 12, 13, 15, 16, 33, 46, 48, 49, 63, 64, 65, 104, 108, 115, 126, 127, 719, 720,
        998, 999, 1000, 4095, 4096, 9999, 10000, 12345, 32767, 32768, 120345, 543210, 543211, 999999, 1012345,
        Integer.MAX_VALUE - 1, Integer.MAX_VALUE};

    public static void main(String[] args) throws IllegalAccessException {
        Method[] calls = PeaCups.class.getDeclaredMethods();
        calls = Arrays.stream(calls).filter(m -> java.lang.reflect.Modifier.isPublic(m.getModifiers()))
            .sorted(Comparator.comparing(Method::getName)).toArray(Method[]::new);
        for (int run = 0; run < 6000; run++) {
            PeaCups x = new PeaCups();
            boolean isLookedAt = run % 2 == 1;
            // A call that is looked at takes some 75, and nothing is promised behind the 512th.
            for (int i = 0; i < (isLookedAt ? 200 : 512); i++) {
                callOne(x, calls[random.nextInt(calls.length)], false);
            }
            for (int i = 0; i < (isLookedAt ? 4 : 0); i++) {
                callOne(x, calls[random.nextInt(calls.length)], true);
            }
        }
        due.end();
    }

    private static void callOne(PeaCups x, Method call, boolean isLookedAt) throws IllegalAccessException {
        Object[] numbers = new Object[call.getParameterCount()];
        for (int i = 0; i < numbers.length; i++) {
            numbers[i] = EDGES[random.nextInt(EDGES.length)];
        }
        String name = call.getName() + Arrays.toString(numbers);
        String before = isLookedAt ? state(x) : "";
        try {
            long answer = ((Number) call.invoke(x, numbers)).longValue();
            if (answer < 0) {
                due.holds(name + " was refused and changed something", !isLookedAt || state(x).equals(before));
                due.holds(name + " answered " + answer, answer >= -6
                    || answer == PeaCups.GONE + PeaCups.OUTSIDE && call.getName().equals("lot"));
            }
        } catch (InvocationTargetException thrown) {
            due.holds(name + " threw " + thrown.getCause(), false);
        }
    }

    private static String state(PeaCups x) {
        StringBuilder text = new StringBuilder();
        for (int what = 0; what < 34; what++) {
            text.append(x.told(what)).append(' ');
        }
        return text.append(x.cases(-1)).append(' ').append(x.fault()).append(' ').append(x.judge(0)).toString();
    }
}
