/** The bounds that promises 17 to 20 name: weigh, forget, cases, leaves. */
public final class EdgesOfLumpsTest {
    private static final Edges edges = new Edges();
    private static final int NONE = PeaCups.NONE, OUTSIDE = PeaCups.OUTSIDE;

    public static void main(String[] args) {
        setBounds();
        setsOfAsMany();
        everySmallPairOfSets();
        eightSights();
        orderOfRefusals();
        forgetNoneAndEight();
        noSights();
        everyCaseAlone();
        everyCaseOnBothSides();
        beyondTheCases();
        nothingFits();
        leavesAtItsEnds();
        edges.end();
    }

    private static void setBounds() {
        edges.bounds(2, 0, 2, OUTSIDE, "weigh", 1, 2, 0);
        edges.bounds(2, 0, 2, OUTSIDE, "weigh", 63, 4032, 0);
        for (int set : new int[] {0, -1, 4096, 4097, 8192, 4095 + 4096, 65536, Integer.MIN_VALUE, Integer.MAX_VALUE,
            Integer.MIN_VALUE + 1, -4096, 1 << 30}) {
            for (int other : new int[] {1, 2, 2048, 63, 4095, set}) {
                refused(set, other);
                refused(other, set);
            }
        }
    }

    private static void refused(int one, int other) {
        for (int what : new int[] {0, 1, 2, 3, -1}) {
            edges.answersNew(OUTSIDE, "weigh", one, other, what);
        }
        edges.refused(OUTSIDE, "weigh", one, other, 0);
        edges.refused(OUTSIDE, "leaves", one, other);
    }

    private static void setsOfAsMany() {
        int[][] sets = {{1, 2}, {1, 2048}, {2048, 1}, {1024, 2048}, {63, 4032}, {4032, 63}, {1365, 2730}, {3, 3072}};
        for (int[] s : sets) {
            for (int what = 0; what < 3; what++) {
                edges.answersNew(1, "weigh", s[0], s[1], what);
            }
            edges.same("leaves of these is told", new PeaCups().leaves(s[0], s[1]) > 0 ? 1 : 0, 1);
        }
        int[][] wrong = {{1, 1}, {3, 3}, {4095, 4095}, {63, 63}, {1, 3}, {3, 1}, {1, 6}, {6, 1}, {3, 6}, {6, 3}, {63, 4064},
            {127, 3968}, {4095, 1}, {1, 4095}, {2047, 2048}, {4094, 1}, {31, 4032}, {63, 3968}, {1, 3072}};
        for (int[] w : wrong) {
            refused(w[0], w[1]);
        }
    }

    private static void everySmallPairOfSets() {
        for (int one = -1; one < 70; one++) {
            PeaCups x = new PeaCups();
            for (int other = -1; other < 70; other++) {
                boolean fits = one > 0 && other > 0 && (one & other) == 0
                    && Integer.bitCount(one) == Integer.bitCount(other);
                edges.answers(fits ? 1 : OUTSIDE, x, "weigh", one, other, 0);
                x.forget();
                int left = 25 - 4 * Integer.bitCount(one);
                edges.answers(fits ? Math.max(left, 2 * Integer.bitCount(one)) : OUTSIDE, x, "leaves", one, other);
            }
        }
    }

    private static void eightSights() {
        PeaCups x = new PeaCups();
        for (int count = 1; count <= 8; count++) {
            edges.answers(count, x, "weigh", 1, 2, 0);
            edges.answers(count, x, "told", 4);
        }
        for (int what = 0; what < 3; what++) {
            edges.answers(PeaCups.FULL, x, "weigh", 4, 8, what);
        }
        edges.answers(8, x, "told", 4);
        edges.answers(21, x, "cases", -1);
        // The eighth sight counts as the others do.
        PeaCups last = new PeaCups();
        for (int i = 0; i < 7; i++) {
            last.weigh(1, 2, 0);
        }
        last.weigh(1024, 2048, 1);
        edges.answers(2, last, "cases", -1);
        edges.answers(11, last, "cases", 0);
        edges.answers(24, last, "cases", 1);
        edges.answers(NONE, last, "cases", 2);
        edges.answers(1, last, "leaves", 1024, 512);
    }

    private static void orderOfRefusals() {
        for (String full : new String[] {"full", "fullFault"}) {
            edges.refusedIn(full, PeaCups.FULL, "weigh", 1, 2, 0);
            edges.refusedIn(full, PeaCups.FULL, "weigh", 63, 4032, 2);
            edges.refusedIn(full, OUTSIDE, "weigh", 1, 2, 3);
            edges.refusedIn(full, OUTSIDE, "weigh", 1, 2, -1);
            edges.refusedIn(full, OUTSIDE, "weigh", 1, 1, 0);
            edges.refusedIn(full, OUTSIDE, "weigh", 0, 0, 0);
            edges.refusedIn(full, OUTSIDE, "weigh", 1, 4096, 2);
        }
    }

    private static void forgetNoneAndEight() {
        PeaCups x = new PeaCups();
        edges.answers(0, x, "forget");
        for (int count = 1; count <= 8; count++) {
            for (int i = 0; i < count; i++) {
                x.weigh(15, 240, 1);
            }
            edges.answers(count, x, "forget");
            edges.answers(0, x, "told", 4);
            edges.answers(25, x, "cases", -1);
        }
        edges.answers(1, x, "weigh", 1, 2, 0);
        PeaCups rich = States.make("rich");
        edges.answers(2, rich, "forget");
        edges.answers(0, rich, "forget");
        edges.answers(10, rich, "told", 0);
        edges.answers(301245, rich, "told", 1);
        edges.answers(5, rich, "told", 3);
    }

    private static void noSights() {
        PeaCups x = new PeaCups();
        edges.answers(25, x, "cases", -1);
        for (int i = 0; i < 25; i++) {
            edges.answers(i, x, "cases", i);
        }
        edges.answers(NONE, x, "cases", 25);
    }

    /** Each lump against each other one: two cases a side, and all without these for neither. */
    private static void everyCaseAlone() {
        for (int one = 0; one < 12; one++) {
            for (int other = 0; other < 12; other++) {
                if (one == other) {
                    continue;
                }
                PeaCups x = new PeaCups();
                x.weigh(1 << one, 1 << other, 1);
                two(x, 1 + one, 13 + other);
                x.forget();
                x.weigh(1 << one, 1 << other, 2);
                two(x, 1 + other, 13 + one);
                x.forget();
                x.weigh(1 << one, 1 << other, 0);
                edges.answers(21, x, "cases", -1);
                edges.answers(0, x, "cases", 0);
                edges.answers(21, x, "leaves", 1 << one, 1 << other);
            }
        }
    }

    private static void two(PeaCups x, int lesser, int greater) {
        edges.answers(2, x, "cases", -1);
        edges.answers(lesser, x, "cases", 0);
        edges.answers(greater, x, "cases", 1);
        edges.answers(NONE, x, "cases", 2);
    }

    private static void everyCaseOnBothSides() {
        PeaCups x = new PeaCups();
        x.weigh(63, 4032, 1);
        sixAndSix(x, 1, 19);
        x.forget();
        x.weigh(63, 4032, 2);
        sixAndSix(x, 7, 13);
        x.forget();
        x.weigh(63, 4032, 0);
        edges.answers(1, x, "cases", -1);
        edges.answers(0, x, "cases", 0);
        edges.answers(NONE, x, "cases", 1);
        edges.answers(1, x, "leaves", 63, 4032);
    }

    private static void sixAndSix(PeaCups x, int heavier, int lighter) {
        edges.answers(12, x, "cases", -1);
        for (int i = 0; i < 6; i++) {
            edges.answers(heavier + i, x, "cases", i);
            edges.answers(lighter + i, x, "cases", 6 + i);
        }
        edges.answers(NONE, x, "cases", 12);
    }

    private static void beyondTheCases() {
        for (String state : States.NAMES) {
            int fitting = States.make(state).cases(-1);
            for (int i : new int[] {fitting, fitting + 1, 25, 26, 1 << 8, 1 << 16, Integer.MAX_VALUE - 1,
                Integer.MAX_VALUE, -2, -3, -6, -256, Integer.MIN_VALUE + 1, Integer.MIN_VALUE}) {
                edges.refusedIn(state, NONE, "cases", i);
            }
        }
    }

    private static void nothingFits() {
        PeaCups x = new PeaCups();
        x.weigh(1, 2, 0);
        x.weigh(1, 2, 1);
        edges.answers(0, x, "cases", -1);
        edges.answers(NONE, x, "cases", 0);
        edges.answers(0, x, "leaves", 1, 2);
        edges.answers(0, x, "leaves", 63, 4032);
        edges.answers(OUTSIDE, x, "leaves", 1, 1);
        edges.answers(3, x, "weigh", 1, 2, 2);
        edges.answers(0, x, "cases", -1);
    }

    private static void leavesAtItsEnds() {
        edges.answersNew(21, "leaves", 1, 2);
        edges.answersNew(21, "leaves", 2048, 1024);
        edges.answersNew(12, "leaves", 63, 4032);
        edges.answersNew(9, "leaves", 15, 240);
        edges.answersNew(10, "leaves", 31, 992);
        PeaCups x = new PeaCups();
        x.weigh(15, 240, 1);
        // A weighing that is told again leaves all eight.
        edges.answers(8, x, "leaves", 15, 240);
        edges.answers(8, x, "leaves", 240, 15);
        edges.answers(4, x, "leaves", 15, 3840);
        edges.answers(8, x, "leaves", 256, 512);
        edges.answers(1, x, "told", 4);
    }
}
