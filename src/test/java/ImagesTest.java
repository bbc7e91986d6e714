/** Promises 24 to 26: image, restore, told. */
public final class ImagesTest {
    private static final Due due = new Due();

    public static void main(String[] args) {
        keptAndRestored();
        padStays();
        twoImages();
        refused();
        told();
        due.end();
    }

    private static String all(PeaCups x) {
        StringBuilder text = new StringBuilder();
        for (int what : new int[] {1, 2, 3, 4, 10, 11, 12, 13, 20, 21, 22, 23, 30, 31, 32, 33}) {
            text.append(x.told(what)).append(' ');
        }
        for (int i = -1; i < 25; i++) {
            text.append(x.cases(i)).append(' ');
        }
        return text.toString();
    }

    private static void fill(PeaCups x, int number) {
        x.cups(number == 1 ? 543210 : 254013, number == 1 ? 3 : -1);
        for (int watcher = 0; watcher < 4; watcher++) {
            x.watcher(watcher, number + watcher, 10 * number + watcher, 7 * number + watcher);
        }
        x.forget();
        x.weigh(1 << number, 2 << number, number);
        for (int i = 1; i < number; i++) {
            x.weigh(3, 48, 0);
        }
        Due.say(x, ".".repeat(number));
        x.done();
    }

    private static void keptAndRestored() {
        for (int k = 0; k < 2; k++) {
            PeaCups x = new PeaCups();
            fill(x, 1);
            String before = all(x);
            due.same("image(" + k + ")", x.image(k), 1);
            due.holds("keeping changes nothing", all(x).equals(before));
            fill(x, 2);
            due.holds("it is otherwise", !all(x).equals(before));
            due.same("restore(" + k + ")", x.restore(k), 1);
            due.holds("it is as it was", all(x).equals(before));
            fill(x, 2);
            due.same("restore(" + k + ") again", x.restore(k), 1);
            due.holds("it is as it was, again", all(x).equals(before));
            due.same("the other is not kept", x.restore(1 - k), PeaCups.STATE);
        }
    }

    private static void padStays() {
        PeaCups x = Due.saying("l5");
        x.image(0);
        Due.say(x, "h");
        x.restore(0);
        due.same("told(0)", x.told(0), 3);
        due.same("fault()", x.fault(), 3);
        x.wipe();
        x.restore(0);
        due.same("told(0) behind wipe", x.told(0), 0);
    }

    private static void twoImages() {
        PeaCups x = new PeaCups();
        fill(x, 1);
        String one = all(x);
        x.image(0);
        fill(x, 2);
        String two = all(x);
        x.image(1);
        x.restore(0);
        due.holds("image 0", all(x).equals(one));
        x.restore(1);
        due.holds("image 1", all(x).equals(two));
        x.image(0);
        fill(x, 1);
        x.restore(0);
        due.holds("image 0 kept anew", all(x).equals(two));
    }

    private static void refused() {
        PeaCups x = new PeaCups();
        for (int k : new int[] {-1, 2, Integer.MAX_VALUE, Integer.MIN_VALUE}) {
            due.same("image(" + k + ")", x.image(k), PeaCups.OUTSIDE);
            due.same("restore(" + k + ")", x.restore(k), PeaCups.OUTSIDE);
        }
        due.same("restore(0)", x.restore(0), PeaCups.STATE);
        due.same("restore(1)", x.restore(1), PeaCups.STATE);
    }

    private static void told() {
        PeaCups x = new PeaCups();
        x.weigh(1, 2, 0);
        due.same("told(4)", x.told(4), 1);
        for (int watcher = 0; watcher < 4; watcher++) {
            x.watcher(watcher, 1 + watcher, 100 + watcher, 8 + watcher);
        }
        for (int what = -50; what < 150; what++) {
            int watcher = what % 10;
            boolean isOfWatcher = what >= 10 && what < 40 && watcher < 4;
            if (isOfWatcher) {
                due.same("told(" + what + ")", x.told(what), new int[] {1, 100, 8}[what / 10 - 1] + watcher);
            } else if (what < 0 || what > 4) {
                due.same("told(" + what + ")", x.told(what), PeaCups.OUTSIDE);
            }
        }
        due.same("told(MAX)", x.told(Integer.MAX_VALUE), PeaCups.OUTSIDE);
        due.same("told(MIN)", x.told(Integer.MIN_VALUE), PeaCups.OUTSIDE);
        Due.say(x, "s019.");
        due.same("told(0)", x.told(0), 5);
        due.same("told(1) ahead of the text", x.told(1), 12345);
        due.same("told(3) ahead of the text", x.told(3), 0);
    }
}
