/** The bounds that promises 1 to 6 name: a new object, cups, watcher, say, wipe, fault. */
public final class EdgesOfCupsTest {
    private static final Edges edges = new Edges();
    private static final String PLACE_DIGITS = "012345", MUCH_DIGITS = "123456789", HEADS = "slhABCD.";

    public static void main(String[] args) {
        objectsAreApart();
        cupsBounds();
        cupsTellsTheRowAsItWas();
        cupsLeavesTheRest();
        watcherBounds();
        watcherTellsCoinAsItWas();
        everyThought();
        sayBounds();
        fullPad();
        everySignCounts();
        wipeEmptyAndFull();
        wipeLeavesTheRest();
        everySignAtEveryPlace();
        faultOfFullPads();
        firstFaultStays();
        faultIsNotWhyAnActCanNotBe();
        edges.end();
    }

    private static void objectsAreApart() {
        String fresh = States.shown(new PeaCups());
        PeaCups used = States.make("full");
        edges.same("a new object beside a used one", States.shown(new PeaCups()).equals(fresh) ? 1 : 0, 1);
        edges.answers(99, used, "told", 3);
        edges.answersNew(0, "told", 3);
    }

    private static void cupsBounds() {
        edges.bounds(1, -1, 5, PeaCups.UNKNOWN, "cups", 12345, 0);
        edges.bounds(1, -1, 5, PeaCups.UNKNOWN, "cups", 543210, 0);
        // Both fit: the CUP is named first.
        edges.refused(PeaCups.UNKNOWN, "cups", 12344, 6);
        edges.refused(PeaCups.UNKNOWN, "cups", -1, -2);
        edges.refused(PeaCups.UNKNOWN, "cups", Integer.MIN_VALUE, Integer.MIN_VALUE);
        edges.refused(PeaCups.UNKNOWN, "cups", Integer.MAX_VALUE, Integer.MAX_VALUE);
        for (int row : new int[] {12344, 12346, 543209, 543211, 0, -1, -12345, 112345, 612345, 987654, 1012345, 1543210,
            12345 + (1 << 20), Integer.MIN_VALUE, Integer.MAX_VALUE}) {
            edges.refused(PeaCups.OUTSIDE, "cups", row, -1);
            edges.refused(PeaCups.OUTSIDE, "cups", row, 5);
        }
    }

    private static void cupsTellsTheRowAsItWas() {
        PeaCups x = new PeaCups();
        edges.answers(12345, x, "cups", 12345, 5);
        edges.answers(5, x, "told", 2);
        edges.answers(12345, x, "cups", 543210, -1);
        edges.answers(PeaCups.NONE, x, "told", 2);
        edges.answers(543210, x, "cups", 12354, 0);
        edges.answers(12354, x, "cups", 12345, 0);
        for (int pea = 0; pea < 6; pea++) {
            edges.answers(12345, x, "cups", 12345, pea);
            edges.answers(pea, x, "told", 2);
            edges.answers(pea, x, "pea", 0);
        }
    }

    private static void cupsLeavesTheRest() {
        PeaCups x = States.make("rich");
        x.cups(543210, 1);
        edges.answers(10, x, "told", 0);
        edges.answers(5, x, "told", 3);
        edges.answers(2, x, "told", 4);
        for (int w = 0; w < 4; w++) {
            edges.answers(3 + 2 * w, x, "told", 10 + w);
            edges.answers(5 + w, x, "told", 20 + w);
            edges.answers(9 + 7 * w, x, "told", 30 + w);
        }
    }

    private static void watcherBounds() {
        edges.bounds(0, 0, 3, PeaCups.UNKNOWN, "watcher", 0, 1, 0, 1);
        edges.bounds(1, 1, 9, PeaCups.OUTSIDE, "watcher", 0, 1, 999, 63);
        edges.bounds(2, 0, 999, PeaCups.OUTSIDE, "watcher", 3, 9, 0, 1);
        edges.bounds(3, 1, 63, PeaCups.OUTSIDE, "watcher", 1, 1, 0, 1);
        // Both fit: the WATCHER is named first.
        edges.refused(PeaCups.UNKNOWN, "watcher", -1, 0, 0, 1);
        edges.refused(PeaCups.UNKNOWN, "watcher", 4, 1, 1000, 1);
        edges.refused(PeaCups.UNKNOWN, "watcher", 4, 1, 0, 64);
        edges.refused(PeaCups.UNKNOWN, "watcher", Integer.MAX_VALUE, 10, -1, 0);
        edges.refused(PeaCups.OUTSIDE, "watcher", 2, 0, 1000, 64);
    }

    private static void watcherTellsCoinAsItWas() {
        for (int w = 0; w < 4; w++) {
            PeaCups x = new PeaCups();
            edges.answers(20, x, "watcher", w, 1, 0, 1);
            edges.answers(0, x, "watcher", w, 9, 999, 63);
            edges.answers(9, x, "told", 10 + w);
            edges.answers(999, x, "told", 20 + w);
            edges.answers(999, x, "watcher", w, 1, 0, 1);
            edges.answers(1, x, "told", 10 + w);
            edges.answers(0, x, "told", 20 + w);
            for (int other = 0; other < 4; other++) {
                edges.answers(other == w ? 1 : 5, x, "told", 10 + other);
                edges.answers(other == w ? 0 : 20, x, "told", 20 + other);
                edges.answers(other == w ? 1 : 63, x, "told", 30 + other);
            }
        }
    }

    private static void everyThought() {
        for (int w = 0; w < 4; w++) {
            PeaCups x = new PeaCups();
            for (int thinks = 1; thinks <= 63; thinks++) {
                x.watcher(w, 5, 20, thinks);
                edges.answers(thinks, x, "told", 30 + w);
                edges.answers(thinks, x, "behind", w, 0);
            }
        }
    }

    private static void sayBounds() {
        edges.bounds(0, 33, 126, PeaCups.OUTSIDE, "say", 33);
        edges.answersNew(1, "say", 33);
        edges.answersNew(1, "say", 126);
        for (String full : new String[] {"full", "fullFault"}) {
            for (int sign : new int[] {33, 46, 48, 115, 126}) {
                edges.refusedIn(full, PeaCups.FULL, "say", sign);
            }
            // Both fit: OUTSIDE is first.
            for (int sign : new int[] {32, 127, 0, -1, Integer.MIN_VALUE, Integer.MAX_VALUE}) {
                edges.refusedIn(full, PeaCups.OUTSIDE, "say", sign);
            }
        }
    }

    private static void fullPad() {
        PeaCups x = new PeaCups();
        for (int count = 1; count <= 60; count++) {
            edges.answers(count, x, "say", '.');
            edges.answers(count, x, "told", 0);
        }
        edges.answers(PeaCups.FULL, x, "say", '.');
        edges.answers(PeaCups.FULL, x, "say", 'l');
        edges.answers(60, x, "told", 0);
        edges.answers(PeaCups.NONE, x, "fault");
        edges.answers(60, x, "done");
        edges.answers(1, x, "say", '.');
    }

    private static void everySignCounts() {
        PeaCups x = new PeaCups();
        for (int sign = 33; sign <= 126; sign++) {
            int count = (sign - 33) % 60;
            if (count == 0) {
                x.wipe();
            }
            edges.answers(count + 1, x, "say", sign);
        }
    }

    private static void wipeEmptyAndFull() {
        for (int count : new int[] {0, 1, 59, 60}) {
            PeaCups x = Due.saying("!".repeat(count));
            edges.answers(count, x, "wipe");
            edges.answers(0, x, "told", 0);
            edges.answers(PeaCups.NONE, x, "fault");
            edges.answers(PeaCups.NONE, x, "judge", 0);
            edges.answers(0, x, "wipe");
            edges.answers(1, x, "say", 's');
            edges.answers(1, x, "fault");
        }
        edges.answers(60, States.make("full"), "wipe");
        edges.answers(60, States.make("fullFault"), "wipe");
    }

    private static void wipeLeavesTheRest() {
        PeaCups x = States.make("cannot");
        x.wipe();
        PeaCups other = States.make("fault");
        other.wipe();
        edges.same("what wipe leaves", States.shown(x).equals(States.shown(other)) ? 1 : 0, 1);
        PeaCups y = States.make("rich");
        y.wipe();
        edges.answers(301245, y, "told", 1);
        edges.answers(2, y, "told", 2);
        edges.answers(5, y, "told", 3);
        edges.answers(2, y, "told", 4);
        edges.answers(1, y, "restore", 1);
    }

    /** Each sign from 33 to 126 behind each beginning of an act, at the head of a text and later. */
    private static void everySignAtEveryPlace() {
        for (String ahead : new String[] {"", ".", "l0", "D59", "s015"}) {
            behindBeginning(ahead, HEADS, ".");
            for (char digit : PLACE_DIGITS.toCharArray()) {
                behindBeginning(ahead + "s" + digit, PLACE_DIGITS, "");
                behindBeginning(ahead + "s0" + digit, MUCH_DIGITS, MUCH_DIGITS);
                behindBeginning(ahead + "s" + digit + "5", MUCH_DIGITS, MUCH_DIGITS);
                for (char letter : "ABCD".toCharArray()) {
                    behindBeginning(ahead + letter + digit, MUCH_DIGITS, MUCH_DIGITS);
                }
            }
            behindBeginning(ahead + "s", PLACE_DIGITS, "");
            behindBeginning(ahead + "l", PLACE_DIGITS, PLACE_DIGITS);
            behindBeginning(ahead + "h", PLACE_DIGITS, PLACE_DIGITS);
            for (char letter : "ABCD".toCharArray()) {
                behindBeginning(ahead + letter, PLACE_DIGITS, "");
            }
        }
    }

    /** Which signs can stand behind a beginning, and which of these end an act. */
    private static void behindBeginning(String beginning, String standing, String ending) {
        for (int sign = 33; sign <= 126; sign++) {
            PeaCups x = Due.saying(beginning);
            x.say(sign);
            int at = beginning.length();
            boolean stands = standing.indexOf(sign) >= 0;
            boolean ends = ending.indexOf(sign) >= 0;
            int fault = !stands ? at : ends ? PeaCups.NONE : at + 1;
            edges.same("fault of " + beginning + (char) sign, x.fault(), fault);
        }
    }

    private static void faultOfFullPads() {
        String[] texts = {".".repeat(60), "s019".repeat(15), "D59".repeat(20), "l5".repeat(30), ".".repeat(59) + "l",
            ".".repeat(59) + "s", ".".repeat(59) + "!", ".".repeat(58) + "h6", ".".repeat(57) + "A00", "~".repeat(60),
            ".".repeat(57) + "s01", ".".repeat(57) + "s06", ".".repeat(56) + "s010"};
        int[] faults = {-6, -6, -6, -6, 60, 60, 59, 59, 59, 0, 60, 59, 59};
        for (int i = 0; i < texts.length; i++) {
            edges.same("fault of " + texts[i], Due.saying(texts[i]).fault(), faults[i]);
        }
    }

    /** Signs that are said later, or refused, do not move a fault that stands. */
    private static void firstFaultStays() {
        PeaCups x = Due.saying("s0x");
        for (int i = 3; i < 60; i++) {
            edges.answers(2, x, "fault");
            x.say(i % 2 == 0 ? '!' : '1');
        }
        x.say('!');
        edges.answers(2, x, "fault");
        // A sign that is said changes what fault() tells; one that is refused does not.
        PeaCups y = Due.saying("s");
        edges.answers(1, y, "fault");
        y.say(32);
        edges.answers(1, y, "fault");
        y.say('0');
        edges.answers(2, y, "fault");
    }

    private static void faultIsNotWhyAnActCanNotBe() {
        for (String text : new String[] {"s001", "h5", "A09A19A19A19A19", ".".repeat(60)}) {
            edges.same("fault of " + text, Due.saying(text).fault(), PeaCups.NONE);
        }
    }
}
