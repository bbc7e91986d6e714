import java.lang.reflect.InvocationTargetException;
import java.lang.reflect.Method;
import java.lang.reflect.Modifier;
import java.util.Arrays;
import java.util.HashMap;
import java.util.Map;
import java.util.Set;
import java.util.TreeMap;
import java.util.TreeSet;

/** Calls by name at the bounds of their numbers; what is refused is refused in every state, and changes nothing. */
final class Edges {
    private static final Map<String, Method> METHODS = new TreeMap<>();

    static {
        for (Method method : PeaCups.class.getDeclaredMethods()) {
            if (Modifier.isPublic(method.getModifiers())) {
                METHODS.put(method.getName(), method);
            }
        }
    }

    private final Due due = new Due();
    private final Map<String, String> shown = new HashMap<>();

    /** The calls that the class has. */
    static Set<String> names() {
        return METHODS.keySet();
    }

    static long call(PeaCups x, String name, int... numbers) {
        try {
            Object[] boxed = Arrays.stream(numbers).boxed().toArray();
            return ((Number) METHODS.get(name).invoke(x, boxed)).longValue();
        } catch (IllegalAccessException | InvocationTargetException thrown) {
            System.out.println(name + Arrays.toString(numbers) + " threw " + thrown.getCause());
            return Long.MIN_VALUE;
        }
    }

    /** A call on an object, and what is due. */
    void answers(long want, PeaCups x, String name, int... numbers) {
        due.same(name + Arrays.toString(numbers), call(x, name, numbers), want);
    }

    /** A call on a new object, and what is due. */
    void answersNew(long want, String name, int... numbers) {
        answers(want, new PeaCups(), name, numbers);
    }

    /** A call that one state refuses; all that calls show then is as if it had not been. */
    void refusedIn(String state, long want, String name, int... numbers) {
        PeaCups x = States.make(state);
        String words = state + ": " + name + Arrays.toString(numbers);
        due.same(words, call(x, name, numbers), want);
        String before = shown.computeIfAbsent(state, s -> States.shown(States.make(s)));
        due.holds(words + " changes nothing", States.shown(x).equals(before));
    }

    /** A call that every state refuses with the same answer. */
    void refused(long want, String name, int... numbers) {
        for (String state : States.NAMES) {
            refusedIn(state, want, name, numbers);
        }
    }

    /** The number at an index must be from least to most; the others are as told. */
    void bounds(int index, int least, int most, long refusal, String name, int... numbers) {
        int[] changed = numbers.clone();
        for (int end : new int[] {least, most}) {
            changed[index] = end;
            for (String state : States.NAMES) {
                long answer = call(States.make(state), name, changed);
                due.holds(state + ": " + name + Arrays.toString(changed) + " is taken, not " + answer,
                    answer != refusal && answer != Long.MIN_VALUE);
            }
        }
        for (int value : beyond(least, most)) {
            changed[index] = value;
            refused(refusal, name, changed);
        }
    }

    /** Numbers just beyond two bounds, the outermost ints, and those that look like an end in their low bits. */
    private static TreeSet<Integer> beyond(int least, int most) {
        TreeSet<Integer> values = new TreeSet<>();
        for (int end : new int[] {least, most}) {
            for (int step : new int[] {1, 2, 10, 1 << 8, 1 << 16, 1 << 31}) {
                values.add(end + step);
                values.add(end - step);
            }
        }
        values.addAll(Arrays.asList(Integer.MIN_VALUE, Integer.MIN_VALUE + 1, Integer.MAX_VALUE - 1, Integer.MAX_VALUE));
        for (int code = PeaCups.NONE; code < 0; code++) {
            values.add(code);
        }
        values.removeIf(value -> value >= least && value <= most);
        return values;
    }

    void same(String what, long got, long want) {
        due.same(what, got, want);
    }

    void end() {
        due.end();
    }
}
