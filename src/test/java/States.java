/** Objects in states at the edges, made anew each time, and all that later calls show of one. */
final class States {
    static final String[] NAMES = {"new", "rich", "fault", "cannot", "both", "full", "fullFault"};
    /** Signs that can not stand, acts that can not be: which states are refused by NO, which by STATE. */
    private static final int[] REFUSALS = {0, 0, PeaCups.NO, PeaCups.STATE, PeaCups.NO, 0, PeaCups.NO};
    private static final int[] TOLD = {0, 1, 2, 3, 4, 10, 11, 12, 13, 20, 21, 22, 23, 30, 31, 32, 33};

    private States() {
    }

    static PeaCups make(String name) {
        switch (name) {
            case "new":
                return new PeaCups();
            case "rich":
                return Due.say(rich(), "s019A12l2.");
            case "fault":
                return Due.say(rich(), "l2s06");
            case "cannot":
                return Due.say(rich(), "l2h4.");
            case "both":
                return Due.say(rich(), "h4s");
            case "full":
                return Due.say(full(), "s019".repeat(15));
            default:
                return Due.say(full(), "s019".repeat(14) + "l5l6");
        }
    }

    /** What calls that look behind the text answer in a state; 0: they are not refused. */
    static int refusal(String name) {
        for (int i = 0; i < NAMES.length; i++) {
            if (NAMES[i].equals(name)) {
                return REFUSALS[i];
            }
        }
        return 0;
    }

    private static PeaCups rich() {
        PeaCups x = new PeaCups();
        x.watcher(3, 2, 77, 40);
        x.weigh(15, 240, 0);
        x.image(1);
        x.cups(301245, 2);
        Due.say(x, ".....");
        x.done();
        for (int w = 0; w < 4; w++) {
            x.watcher(w, 3 + 2 * w, 5 + w, 9 + 7 * w);
        }
        x.weigh(1, 256, 1);
        return x;
    }

    /** Eight sights, round 99, COIN at 0 and at 999, the pea in the hand, one image. */
    private static PeaCups full() {
        PeaCups x = new PeaCups();
        Due.say(x, ".".repeat(60));
        x.done();
        Due.say(x, ".".repeat(39));
        x.done();
        x.cups(543210, -1);
        x.watcher(0, 9, 999, 63);
        x.watcher(1, 1, 0, 1);
        x.watcher(2, 9, 999, 32);
        for (int i = 0; i < 7; i++) {
            x.weigh(1 << i, 2 << i, 0);
        }
        x.weigh(1 << 10, 1 << 11, 2);
        x.image(0);
        return x;
    }

    /** Some 200 calls, the last of which change the object. */
    static String shown(PeaCups x) {
        StringBuilder text = new StringBuilder();
        showNow(x, text);
        showBehind(x, text);
        for (int pad = 0; pad < 2; pad++) {
            text.append(" image ").append(x.restore(pad)).append(':');
            showNow(x, text);
            text.append(x.judge(0)).append(' ').append(x.first(0)).append(' ').append(x.behind(1, 0)).append(' ');
        }
        text.append(x.say('.')).append(' ').append(x.weigh(64, 128, 0)).append(' ').append(x.cases(-1)).append(' ');
        return text.append(x.wipe()).append(' ').append(x.forget()).toString();
    }

    private static void showNow(PeaCups x, StringBuilder text) {
        for (int what : TOLD) {
            text.append(x.told(what)).append(' ');
        }
        for (int i = -1; i < 25; i++) {
            text.append(x.cases(i)).append(' ');
        }
        for (int what = 0; what < 3; what++) {
            text.append(x.year(777, 60, what)).append(' ');
        }
        text.append(x.leaves(5, 10)).append(' ').append(x.changes(12345, 1)).append(' ');
        text.append(x.by(102345, 33, 0)).append(' ');
    }

    private static void showBehind(PeaCups x, StringBuilder text) {
        text.append(x.fault()).append(' ');
        for (int what = 0; what < 3; what++) {
            text.append(x.judge(what)).append(' ').append(x.first(what)).append(' ');
            for (int w = 0; w < 4; w++) {
                text.append(x.behind(w, what)).append(' ');
            }
        }
        for (int place = 0; place < 6; place++) {
            text.append(x.table(place)).append(' ');
        }
        text.append(x.pea(0)).append(' ').append(x.pea(1)).append(' ');
    }
}
