import java.util.ArrayList;
import java.util.Arrays;
import java.util.Collections;
import java.util.List;
import java.util.Random;

/** Runs of 512 calls, of all kinds or of one kind alone, the last as the first; each answer compared with Whole's. */
public final class LongRunsTest {
    private static final int CALLS = 512, RUNS = 400;
    private static final String[] NAMES = Edges.names().toArray(new String[0]);
    private static final int[] EDGES = {Integer.MIN_VALUE, -7, -6, -2, -1, 0, 1, 2, 3, 4, 5, 6, 8, 9, 10, 12, 13, 15, 32,
        33, 63, 64, 99, 100, 126, 127, 719, 720, 999, 1000, 4095, 4096, 9999, 10000, 12345, 32767, 32768, 543210, 543211,
        Integer.MAX_VALUE};
    private static final Due due = new Due();
    private static final Random random = new Random(512);
    private static PeaCups x;
    private static Whole whole;
    private static int calls;
    private static int refusals;
    private static List<String> log;

    public static void main(String[] args) {
        for (int run = 0; run < RUNS; run++) {
            begin();
            while (calls < CALLS) {
                turn();
            }
        }
        for (String name : NAMES) {
            begin();
            while (calls < CALLS) {
                askOrEdge(name);
            }
        }
        due.same("calls of the document", NAMES.length, 25);
        due.holds("some are refused, most are not: " + refusals, refusals > RUNS * 20 && refusals < RUNS * CALLS / 2);
        due.end();
    }

    private static void begin() {
        x = new PeaCups();
        whole = new Whole();
        calls = 0;
        log = new ArrayList<>();
    }

    private static void turn() {
        int kind = random.nextInt(10);
        if (kind < 4) {
            sayAct();
        } else if (kind == 4) {
            finish();
        } else {
            askOrEdge(NAMES[random.nextInt(NAMES.length)]);
        }
    }

    private static void askOrEdge(String name) {
        int[] numbers = numbers(name);
        if (random.nextInt(6) == 0 && numbers.length > 0) {
            numbers[random.nextInt(numbers.length)] = EDGES[random.nextInt(EDGES.length)];
        }
        ask(name, numbers);
    }

    private static void ask(String name, int... numbers) {
        if (calls >= CALLS) {
            return;
        }
        calls++;
        long want = whole.answer(name, numbers);
        long got = Edges.call(x, name, numbers);
        log.add(name + Arrays.toString(numbers));
        refusals += want < 0 && want != PeaCups.NONE ? 1 : 0;
        due.same(got == want ? "" : "call " + calls + " of " + log, got, want);
    }

    private static int upTo(int most) {
        return random.nextInt(most + 1);
    }

    private static void sayAct() {
        int pea = whole.refusal() == 0 ? whole.now.judged().peaPlace() : PeaCups.NONE;
        int place = pea >= 0 && upTo(3) > 0 ? pea : upTo(5);
        String[] acts = {"l" + upTo(5), "h" + place, ".", "" + "ABCD".charAt(upTo(3)) + place + (1 + upTo(8)),
            "s" + place + (place + 1 + upTo(4)) % 6 + (1 + upTo(8)), upTo(9) == 0 ? "s" + place + place + "1" : "l" + place};
        for (char sign : acts[upTo(acts.length - 1)].toCharArray()) {
            ask("say", sign);
        }
    }

    /** What can not be done is wiped, mostly, so that the run goes on. */
    private static void finish() {
        if (whole.refusal() != 0 && upTo(3) > 0) {
            ask("wipe");
        } else {
            ask("done");
        }
    }

    private static int row() {
        if (upTo(9) == 0) {
            return upTo(999999);
        }
        return (int) whole.answer("row", upTo(719));
    }

    private static int[] numbers(String name) {
        switch (name) {
            case "cups":
                return new int[] {row(), upTo(6) - 1};
            case "watcher":
                return new int[] {upTo(3), 1 + upTo(8), upTo(1) == 0 ? upTo(999) : 990 * upTo(1) + upTo(9), 1 + upTo(62)};
            case "say":
                return new int[] {33 + upTo(93)};
            case "judge": case "first":
                return new int[] {upTo(2)};
            case "behind":
                return new int[] {upTo(3), upTo(2)};
            case "table":
                return new int[] {upTo(5)};
            case "pea": case "image": case "restore":
                return new int[] {upTo(1)};
            case "changes":
                return new int[] {row(), upTo(1)};
            case "by":
                return new int[] {row(), upTo(32767) & (upTo(2) == 0 ? 32767 : upTo(32767)), upTo(1)};
            case "rank":
                return new int[] {row()};
            case "row":
                return new int[] {upTo(719)};
            case "squares":
                return new int[] {upTo(999), upTo(1)};
            case "cases":
                return new int[] {upTo(25) - 1};
            case "lot":
                return new int[] {upTo(12), upTo(5), upTo(1), upTo(1)};
            case "year":
                return new int[] {upTo(9999), 1 + upTo(98), upTo(2)};
            case "told":
                return new int[] {upTo(2) == 0 ? upTo(4) : 10 * (1 + upTo(2)) + upTo(3)};
            case "weigh": case "leaves":
                return weighing(name.equals("weigh"));
            default:
                return new int[0];
        }
    }

    private static int[] weighing(boolean isSeen) {
        int[] sets = new int[isSeen ? 3 : 2];
        List<Integer> lumps = new ArrayList<>();
        for (int lump = 0; lump < 12; lump++) {
            lumps.add(lump);
        }
        Collections.shuffle(lumps, random);
        int size = 1 + upTo(5);
        for (int i = 0; i < 2 * size; i++) {
            sets[i % 2] |= 1 << lumps.get(i);
        }
        if (isSeen) {
            sets[2] = upTo(3) == 0 ? 1 + upTo(1) : 0;
        }
        return sets;
    }
}
