import java.util.ArrayList;
import java.util.List;
import java.util.Random;

/** Promises 17 to 20: weigh, forget, cases, leaves; against scales with weights on them. */
public final class LumpsTest {
    private static final Due due = new Due();

    public static void main(String[] args) {
        full();
        refused();
        threeWeighings();
        byScales();
        due.end();
    }

    private static void full() {
        PeaCups x = new PeaCups();
        for (int i = 1; i <= 8; i++) {
            due.same("weigh " + i, x.weigh(1, 2, 0), i);
        }
        due.same("weigh 9", x.weigh(1, 2, 0), PeaCups.FULL);
        due.same("weigh 9, no sets", x.weigh(1, 1, 0), PeaCups.OUTSIDE);
        due.same("told(4)", x.told(4), 8);
        due.same("cases(-1)", x.cases(-1), 21);
        due.same("leaves at 8", x.leaves(4, 8), 17);
        due.same("forget()", x.forget(), 8);
        due.same("forget() again", x.forget(), 0);
        due.same("cases(-1) then", x.cases(-1), 25);
        due.same("weigh then", x.weigh(2048, 1, 2), 1);
        due.same("cases(0)", x.cases(0), 1);
        due.same("cases(1)", x.cases(1), 24);
        due.same("cases(2)", x.cases(2), PeaCups.NONE);
    }

    private static void refused() {
        PeaCups x = new PeaCups();
        int[][] sets = {{0, 0}, {0, 1}, {1, 0}, {1, 1}, {3, 6}, {3, 4}, {4096, 1}, {1, 4096}, {-1, 1}, {1, -4096},
            {4095, 4095}, {Integer.MIN_VALUE, 1}, {1, Integer.MIN_VALUE}};
        for (int[] s : sets) {
            due.same("weigh(" + s[0] + ", " + s[1] + ", 0)", x.weigh(s[0], s[1], 0), PeaCups.OUTSIDE);
            due.same("leaves(" + s[0] + ", " + s[1] + ")", x.leaves(s[0], s[1]), PeaCups.OUTSIDE);
        }
        due.same("weigh(1, 2, -1)", x.weigh(1, 2, -1), PeaCups.OUTSIDE);
        due.same("weigh(1, 2, 3)", x.weigh(1, 2, 3), PeaCups.OUTSIDE);
        due.same("told(4)", x.told(4), 0);
        due.same("cases(25)", x.cases(25), PeaCups.NONE);
        due.same("cases(-2)", x.cases(-2), PeaCups.NONE);
        due.same("cases(MIN)", x.cases(Integer.MIN_VALUE), PeaCups.NONE);
        due.same("cases(MAX)", x.cases(Integer.MAX_VALUE), PeaCups.NONE);
    }

    private static void threeWeighings() {
        PeaCups x = new PeaCups();
        due.same("leaves(15, 240)", x.leaves(15, 240), 9);
        x.weigh(15, 240, 2);
        int[] cases = {5, 6, 7, 8, 13, 14, 15, 16};
        due.same("cases(-1)", x.cases(-1), 8);
        for (int i = 0; i < 8; i++) {
            due.same("cases(" + i + ")", x.cases(i), cases[i]);
        }
        x.weigh(15, 240, 1);
        due.same("nothing fits", x.cases(-1), 0);
        due.same("no first", x.cases(0), PeaCups.NONE);
        due.same("leaves of nothing", x.leaves(1, 2), 0);
    }

    private static int scales(int number, int one, int other) {
        int[] weights = new int[12];
        if (number > 0) {
            weights[(number - 1) % 12] = number <= 12 ? 1 : -1;
        }
        int sum = 0;
        for (int lump = 0; lump < 12; lump++) {
            sum += weights[lump] * ((one >> lump & 1) - (other >> lump & 1));
        }
        return sum > 0 ? 1 : sum < 0 ? 2 : 0;
    }

    private static void byScales() {
        Random random = new Random(12);
        for (int run = 0; run < 2000; run++) {
            PeaCups x = new PeaCups();
            List<Integer> fitting = new ArrayList<>();
            for (int number = 0; number <= 24; number++) {
                fitting.add(number);
            }
            int truth = random.nextInt(25);
            for (int i = 0; i < 4; i++) {
                int[] sets = draw(random);
                int seen = random.nextInt(8) == 0 ? random.nextInt(3) : scales(truth, sets[0], sets[1]);
                int[] left = new int[3];
                for (int number : fitting) {
                    left[scales(number, sets[0], sets[1])]++;
                }
                due.same("leaves", x.leaves(sets[0], sets[1]), Math.max(left[0], Math.max(left[1], left[2])));
                x.weigh(sets[0], sets[1], seen);
                fitting.removeIf(number -> scales(number, sets[0], sets[1]) != seen);
                due.same("cases(-1)", x.cases(-1), fitting.size());
                for (int k = 0; k < 25; k++) {
                    due.same("cases(" + k + ")", x.cases(k), k < fitting.size() ? fitting.get(k) : PeaCups.NONE);
                }
            }
        }
    }

    private static int[] draw(Random random) {
        int size = 1 + random.nextInt(6);
        int[] sets = new int[2];
        for (int i = 0; i < 2 * size;) {
            int bit = 1 << random.nextInt(12);
            if (((sets[0] | sets[1]) & bit) == 0) {
                sets[i % 2] |= bit;
                i++;
            }
        }
        return sets;
    }
}
