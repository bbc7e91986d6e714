/** The bounds that promises 24 to 26 name: image, restore, told. */
public final class EdgesOfImagesTest {
    private static final Edges edges = new Edges();
    private static final int NONE = PeaCups.NONE, OUTSIDE = PeaCups.OUTSIDE;

    public static void main(String[] args) {
        imageBounds();
        restoreBounds();
        notKept();
        oneKept();
        padIsNotKept();
        everyStateComesBack();
        keptTwice();
        restoredTwice();
        imagesAreNotInImages();
        toldBounds();
        toldAtTheEnds();
        edges.end();
    }

    private static void imageBounds() {
        edges.bounds(0, 0, 1, OUTSIDE, "image", 0);
        edges.answersNew(1, "image", 0);
        edges.answersNew(1, "image", 1);
    }

    private static void restoreBounds() {
        edges.bounds(0, 0, 1, OUTSIDE, "restore", 0);
        // No image is kept, and there is none of that number: OUTSIDE is first.
        edges.refusedIn("new", OUTSIDE, "restore", 2);
        edges.refusedIn("new", OUTSIDE, "restore", -1);
    }

    private static void notKept() {
        edges.refusedIn("new", PeaCups.STATE, "restore", 0);
        edges.refusedIn("new", PeaCups.STATE, "restore", 1);
        // Of the states, those with much in them have only one image.
        for (String state : new String[] {"rich", "fault", "cannot", "both"}) {
            edges.refusedIn(state, PeaCups.STATE, "restore", 0);
            edges.answers(1, States.make(state), "restore", 1);
        }
        for (String state : new String[] {"full", "fullFault"}) {
            edges.refusedIn(state, PeaCups.STATE, "restore", 1);
            edges.answers(1, States.make(state), "restore", 0);
        }
    }

    private static void oneKept() {
        for (int k = 0; k < 2; k++) {
            PeaCups x = new PeaCups();
            edges.answers(OUTSIDE, x, "image", 2);
            edges.answers(OUTSIDE, x, "image", -1);
            edges.answers(PeaCups.STATE, x, "restore", k);
            edges.answers(1, x, "image", k);
            edges.answers(1, x, "restore", k);
            edges.answers(PeaCups.STATE, x, "restore", 1 - k);
        }
    }

    private static void padIsNotKept() {
        for (int count : new int[] {0, 1, 59, 60}) {
            PeaCups x = Due.saying("l".repeat(count));
            x.image(0);
            edges.answers(count, x, "told", 0);
            x.wipe();
            x.restore(0);
            edges.answers(0, x, "told", 0);
            edges.answers(NONE, x, "fault");
            Due.say(x, ".".repeat(60));
            edges.answers(1, x, "restore", 0);
            edges.answers(60, x, "told", 0);
            edges.answers(60, x, "done");
            edges.answers(60, x, "told", 3);
            edges.answers(1, x, "restore", 0);
            edges.answers(0, x, "told", 3);
            edges.answers(0, x, "told", 0);
        }
    }

    private static String now(PeaCups x) {
        StringBuilder text = new StringBuilder();
        for (int what : new int[] {1, 2, 3, 4, 10, 11, 12, 13, 20, 21, 22, 23, 30, 31, 32, 33}) {
            text.append(x.told(what)).append(' ');
        }
        for (int i = -1; i < 25; i++) {
            text.append(x.cases(i)).append(' ');
        }
        return text.toString();
    }

    private static void spoil(PeaCups x) {
        x.cups(254013, 4);
        for (int w = 0; w < 4; w++) {
            x.watcher(w, 4, 444, 44);
        }
        x.forget();
        x.weigh(3, 12, 1);
        x.wipe();
        Due.say(x, "...");
        x.done();
    }

    /** No sights and eight, round 0 and 99, COIN 0 and 999, the hand and a cup. */
    private static void everyStateComesBack() {
        for (String state : States.NAMES) {
            for (int k = 0; k < 2; k++) {
                PeaCups x = States.make(state);
                String before = now(x);
                edges.answers(1, x, "image", k);
                edges.same(state + " as it was when kept", now(x).equals(before) ? 1 : 0, 1);
                spoil(x);
                edges.same(state + " is spoilt", now(x).equals(before) ? 1 : 0, 0);
                edges.answers(1, x, "restore", k);
                edges.same(state + " comes back", now(x).equals(before) ? 1 : 0, 1);
            }
        }
        PeaCups full = States.make("full");
        spoil(full);
        full.restore(0);
        edges.answers(PeaCups.FULL, full, "weigh", 1, 2, 0);
        edges.answers(8, full, "forget");
        full.wipe();
        Due.say(full, ".");
        edges.answers(4, full, "judge", 1);
    }

    private static void keptTwice() {
        PeaCups x = new PeaCups();
        x.cups(102345, 1);
        x.image(0);
        x.cups(120345, 2);
        edges.answers(1, x, "image", 0);
        x.cups(123045, 3);
        edges.answers(1, x, "restore", 0);
        edges.answers(120345, x, "told", 1);
        edges.answers(2, x, "told", 2);
    }

    private static void restoredTwice() {
        PeaCups x = new PeaCups();
        x.watcher(0, 1, 0, 1);
        x.weigh(1, 2, 0);
        x.image(1);
        for (int i = 0; i < 3; i++) {
            x.watcher(0, 9, 999, 63);
            x.weigh(4, 8, 1);
            edges.answers(1, x, "restore", 1);
            edges.answers(1, x, "told", 10);
            edges.answers(0, x, "told", 20);
            edges.answers(1, x, "told", 30);
            edges.answers(1, x, "told", 4);
            edges.answers(21, x, "cases", -1);
        }
    }

    /** An image that comes back takes nothing from the other one. */
    private static void imagesAreNotInImages() {
        PeaCups x = new PeaCups();
        x.image(0);
        x.cups(543210, -1);
        x.image(1);
        x.restore(0);
        edges.answers(12345, x, "told", 1);
        edges.answers(1, x, "restore", 1);
        edges.answers(543210, x, "told", 1);
        edges.answers(NONE, x, "told", 2);
    }

    private static boolean isTold(int what) {
        return what >= 0 && what <= 4 || what >= 10 && what <= 13 || what >= 20 && what <= 23 || what >= 30 && what <= 33;
    }

    private static void toldBounds() {
        for (int what = -300; what < 1100; what++) {
            if (!isTold(what)) {
                edges.answersNew(OUTSIDE, "told", what);
            }
        }
        for (int what : new int[] {-1, 5, 9, 14, 19, 24, 29, 34, 39, 40, 43, 1 << 8, 1 << 16, (1 << 30) + 10, -10, -20, -30,
            Integer.MIN_VALUE, Integer.MIN_VALUE + 10, Integer.MIN_VALUE + 20, Integer.MAX_VALUE}) {
            edges.refused(OUTSIDE, "told", what);
        }
    }

    private static void toldAtTheEnds() {
        int[] asked = {0, 1, 2, 3, 4, 10, 11, 12, 13, 20, 21, 22, 23, 30, 31, 32, 33};
        int[] ofNew = {0, 12345, 0, 0, 0, 5, 5, 5, 5, 20, 20, 20, 20, 63, 63, 63, 63};
        int[] ofRich = {10, 301245, 2, 5, 2, 3, 5, 7, 9, 5, 6, 7, 8, 9, 16, 23, 30};
        int[] ofFull = {60, 543210, NONE, 99, 8, 9, 1, 9, 5, 999, 0, 999, 20, 63, 1, 32, 63};
        for (int i = 0; i < asked.length; i++) {
            edges.answersNew(ofNew[i], "told", asked[i]);
            edges.answers(ofRich[i], States.make("rich"), "told", asked[i]);
            edges.answers(ofFull[i], States.make("full"), "told", asked[i]);
        }
    }
}
