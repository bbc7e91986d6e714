/** Promises 1 to 6: a new object, cups, watcher, say, wipe, fault. */
public final class CupsTest {
    private static final Due due = new Due();

    public static void main(String[] args) {
        newObject();
        cups();
        cupsRefused();
        watcher();
        watcherRefused();
        say();
        wipe();
        fault();
        due.end();
    }

    private static void newObject() {
        PeaCups x = new PeaCups();
        int[] asked = {0, 1, 2, 3, 4, 10, 11, 12, 13, 20, 21, 22, 23, 30, 31, 32, 33};
        int[] answers = {0, 12345, 0, 0, 0, 5, 5, 5, 5, 20, 20, 20, 20, 63, 63, 63, 63};
        for (int i = 0; i < asked.length; i++) {
            due.same("new told(" + asked[i] + ")", x.told(asked[i]), answers[i]);
        }
        for (int place = 0; place < 6; place++) {
            due.same("new table(" + place + ")", x.table(place), place);
        }
        due.same("new cases(-1)", x.cases(-1), 25);
        due.same("new fault()", x.fault(), PeaCups.NONE);
        due.same("new restore(0)", x.restore(0), PeaCups.STATE);
        due.same("new restore(1)", x.restore(1), PeaCups.STATE);
    }

    private static void cups() {
        PeaCups x = new PeaCups();
        due.same("cups(543210, 5)", x.cups(543210, 5), 12345);
        due.same("told(1)", x.told(1), 543210);
        due.same("told(2)", x.told(2), 5);
        due.same("pea(0)", x.pea(0), 0);
        due.same("cups(12345, -1)", x.cups(12345, -1), 543210);
        due.same("told(2) in the hand", x.told(2), PeaCups.NONE);
        due.same("cups(102345, 0)", x.cups(102345, 0), 12345);
        due.same("pea(0)", x.pea(0), 1);
        due.same("thinks stay", x.told(30), 63);
    }

    private static void cupsRefused() {
        PeaCups x = new PeaCups();
        x.cups(301245, 2);
        int[] noRows = {-1, 0, 1234, 12344, 12346, 112345, 543211, 543219, 612345, 1012345, 1543210,
            Integer.MAX_VALUE, Integer.MIN_VALUE, -12345};
        for (int row : noRows) {
            due.same("cups(" + row + ", 0)", x.cups(row, 0), PeaCups.OUTSIDE);
            due.same("cups(" + row + ", 6)", x.cups(row, 6), PeaCups.UNKNOWN);
        }
        due.same("cups(12345, 6)", x.cups(12345, 6), PeaCups.UNKNOWN);
        due.same("cups(12345, -2)", x.cups(12345, -2), PeaCups.UNKNOWN);
        due.same("cups(12345, -6)", x.cups(12345, PeaCups.NONE), PeaCups.UNKNOWN);
        due.same("row as before", x.told(1), 301245);
        due.same("pea as before", x.told(2), 2);
    }

    private static void watcher() {
        PeaCups x = new PeaCups();
        due.same("watcher(3, 9, 999, 63)", x.watcher(3, 9, 999, 63), 20);
        due.same("watcher(3, 1, 0, 1)", x.watcher(3, 1, 0, 1), 999);
        due.same("watcher(0, 7, 30, 5)", x.watcher(0, 7, 30, 5), 20);
        int[] asked = {10, 11, 13, 20, 21, 23, 30, 31, 33};
        int[] answers = {7, 5, 1, 30, 20, 0, 5, 63, 1};
        for (int i = 0; i < asked.length; i++) {
            due.same("told(" + asked[i] + ")", x.told(asked[i]), answers[i]);
        }
    }

    private static void watcherRefused() {
        PeaCups x = new PeaCups();
        due.same("watcher(-1, ..)", x.watcher(-1, 0, -1, 0), PeaCups.UNKNOWN);
        due.same("watcher(4, ..)", x.watcher(4, 5, 5, 5), PeaCups.UNKNOWN);
        int[][] outside = {{0, 1, 1}, {10, 1, 1}, {1, -1, 1}, {1, 1000, 1}, {1, 1, 0}, {1, 1, 64}, {1, 1, -1}};
        for (int[] o : outside) {
            due.same("watcher(1, " + o[0] + ", " + o[1] + ", " + o[2] + ")", x.watcher(1, o[0], o[1], o[2]),
                    PeaCups.OUTSIDE);
        }
        due.same("eyes as before", x.told(11), 5);
        due.same("coin as before", x.told(21), 20);
        due.same("thinks as before", x.told(31), 63);
    }

    private static void say() {
        PeaCups x = new PeaCups();
        due.same("say(32)", x.say(32), PeaCups.OUTSIDE);
        due.same("say(127)", x.say(127), PeaCups.OUTSIDE);
        due.same("say(33)", x.say(33), 1);
        due.same("say(126)", x.say(126), 2);
        for (int i = 3; i <= 60; i++) {
            due.same("say('.') " + i, x.say('.'), i);
        }
        due.same("say('.') 61", x.say('.'), PeaCups.FULL);
        due.same("say(0) at 60", x.say(0), PeaCups.OUTSIDE);
        due.same("told(0)", x.told(0), 60);
    }

    private static void wipe() {
        PeaCups x = Due.saying("!");
        due.same("wipe()", x.wipe(), 1);
        due.same("wipe() again", x.wipe(), 0);
        due.same("fault() of nothing", x.fault(), PeaCups.NONE);
        Due.say(x, ".".repeat(60));
        due.same("wipe() of 60", x.wipe(), 60);
        due.same("say behind it", x.say('l'), 1);
        due.same("an old sign does not count", x.fault(), 1);
    }

    private static void fault() {
        String[] texts = {"", ".", "s", "s0", "s01", "s011", "s0110", "s010", "s061", "s601", "s000", "s009", "l", "l0",
            "l6", "l5", "h", "h5", "h6", "hA", "A", "A0", "A00", "A01", "A6", "A51", "D59", "E", "a", "@", "S", "..x",
            "s01", "s01.", "l0h0A01.s018", "l0h0A01.s01", "ll", "s/01", "A0:", "A0/"};
        int[] faults = {-6, -6, 1, 2, 3, -6, 4, 3, 2, 1, 3, -6, 1, -6,
            1, -6, 1, -6, 1, 1, 1, 2, 2, -6, 1, -6, -6, 0, 0, 0, 0, 2,
            3, 3, -6, 11, 1, 1, 2, 2};
        for (int i = 0; i < texts.length; i++) {
            due.same("fault of " + texts[i], Due.saying(texts[i]).fault(), faults[i]);
        }
        due.same("fault of 59 rounds and l", Due.saying(".".repeat(59) + "l").fault(), 60);
    }
}
