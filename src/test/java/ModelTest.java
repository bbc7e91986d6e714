import java.util.Random;
import java.util.TreeSet;

/** Promises 2 to 12, 23 to 26 by drawn runs of calls, each answer compared with the Model's. */
public final class ModelTest {
    private static final Due due = new Due();
    private static final Random random = new Random(6);
    private static PeaCups x;
    private static Model model;
    private static final Model[] images = new Model[2];
    private static String log;
    /** Nothing is promised behind 512 calls, and a turn has fewer than a hundred. */
    private static final int ENOUGH_CALLS = 400;
    private static int calls;

    public static void main(String[] args) {
        for (int run = 0; run < 1500; run++) {
            x = new PeaCups();
            model = new Model();
            images[0] = images[1] = null;
            log = "";
            calls = 0;
            while (calls < ENOUGH_CALLS) {
                turn(random.nextInt(16));
            }
        }
        due.end();
    }

    private static int upTo(int most) {
        return random.nextInt(most + 1);
    }

    private static void same(String call, long got, long want) {
        calls++;
        due.same(log + " " + call, got, want);
    }

    private static void turn(int kind) {
        switch (kind) {
            case 0:
                setCups();
                break;
            case 1:
            case 2:
                setWatcher();
                break;
            case 3:
                same("wipe", x.wipe(), model.text.length());
                model.text = "";
                break;
            case 4:
                sayNoise();
                break;
            case 5:
                finish();
                break;
            case 6:
                keepOrRestore();
                break;
            case 7:
                liveAYear();
                break;
            case 8:
                sayOne((char) (33 + upTo(93)));
                break;
            case 9:
                sayText(".".repeat(upTo(59)));
                finish();
                break;
            default:
                sayText(drawAct());
                break;
        }
        compare();
    }

    private static String shuffled() {
        StringBuilder row = new StringBuilder();
        String rest = "012345";
        while (!rest.isEmpty()) {
            int i = random.nextInt(rest.length());
            row.append(rest.charAt(i));
            rest = rest.substring(0, i) + rest.substring(i + 1);
        }
        return row.toString();
    }

    private static void setCups() {
        String row = shuffled();
        int pea = upTo(6) - 1;
        log += " cups(" + row + "," + pea + ")";
        same("", x.cups(Integer.parseInt(row), pea), Integer.parseInt(model.row));
        model.row = row;
        model.pea = pea < 0 ? null : (char) ('0' + pea);
    }

    private static void setWatcher() {
        int w = upTo(3);
        int eyes = 1 + upTo(8);
        int coin = new int[] {0, upTo(9), upTo(999), 990 + upTo(9)}[upTo(3)];
        int thinks = random.nextBoolean() ? 1 + upTo(62) : 1 << upTo(5);
        log += " watcher(" + w + "," + eyes + "," + coin + "," + thinks + ")";
        same("", x.watcher(w, eyes, coin, thinks), model.coin[w]);
        model.eyes[w] = eyes;
        model.coin[w] = coin;
        model.thinks.set(w, new TreeSet<>());
        for (int place = 0; place < 6; place++) {
            if ((thinks >> place & 1) == 1) {
                model.thinks.get(w).add(place);
            }
        }
    }

    private static void sayOne(char sign) {
        log += sign;
        boolean fits = model.text.length() < 60;
        model.text += fits ? sign : "";
        same("say", x.say(sign), fits ? model.text.length() : PeaCups.FULL);
    }

    private static void sayText(String text) {
        for (char sign : text.toCharArray()) {
            sayOne(sign);
        }
    }

    private static void sayNoise() {
        String signs = "slhABCD.0123456789";
        for (int i = upTo(2); i >= 0; i--) {
            sayOne(signs.charAt(random.nextInt(signs.length())));
        }
    }

    private static String drawAct() {
        int pea = model.fault() == PeaCups.NONE ? model.judged().peaPlace() : PeaCups.NONE;
        int place = pea >= 0 && random.nextBoolean() ? pea : upTo(5);
        switch (upTo(9)) {
            case 0:
            case 1:
                return "l" + place;
            case 2:
            case 3:
                return "h" + place;
            case 4:
                return ".";
            case 5:
            case 6:
                return "" + (char) ('A' + upTo(3)) + place + (1 + upTo(8));
            default:
                return "s" + place + (place + 1 + upTo(4)) % 6 + (1 + upTo(8));
        }
    }

    private static int refusal(Model judged) {
        return model.fault() != PeaCups.NONE ? PeaCups.NO : judged.stopped != PeaCups.NONE ? PeaCups.STATE : 0;
    }

    private static void finish() {
        Model judged = model.judged();
        int refusal = refusal(judged);
        log += " done";
        same("", x.done(), refusal != 0 ? refusal : judged.acts);
        if (refusal == 0) {
            model = judged;
            model.text = "";
        }
    }

    private static void keepOrRestore() {
        int k = upTo(1);
        if (random.nextBoolean()) {
            log += " image" + k;
            same("", x.image(k), 1);
            images[k] = model.copy();
            return;
        }
        log += " restore" + k;
        same("", x.restore(k), images[k] == null ? PeaCups.STATE : 1);
        if (images[k] != null) {
            String text = model.text;
            model = images[k].copy();
            model.text = text;
        }
    }

    private static void liveAYear() {
        int seed = upTo(9999);
        int m = 1 + upTo(98);
        Model then = model.year(seed, m);
        int wrong = 0;
        for (int w = 0; w < 4; w++) {
            wrong += then.isWrong(w) ? 1 : 0;
        }
        String call = "year(" + seed + "," + m + ")";
        same(call + 0, x.year(seed, m, 0), then.peaPlace());
        same(call + 1, x.year(seed, m, 1), wrong);
        same(call + 2, x.year(seed, m, 2), then.coin[0]);
    }

    private static void compare() {
        same("fault", x.fault(), model.fault());
        Model judged = model.judged();
        int refusal = refusal(judged);
        same("judge0", x.judge(0), refusal == PeaCups.NO ? refusal : judged.stopped);
        same("judge1", x.judge(1), refusal == PeaCups.NO ? refusal : judged.why);
        behind("judge2", refusal, x.judge(2), judged.won);
        behind("pea0", refusal, x.pea(0), judged.peaPlace());
        behind("pea1", refusal, x.pea(1), judged.pea == null ? PeaCups.NONE : judged.pea - '0');
        behind("first0", refusal, x.first(0), judged.wrongAct);
        behind("first1", refusal, x.first(1), judged.wrongWho);
        behind("first2", refusal, x.first(2), judged.round);
        int place = upTo(5);
        behind("table" + place, refusal, x.table(place), judged.row.charAt(place) - '0');
        int w = upTo(3);
        behind("behind0 " + w, refusal, x.behind(w, 0), judged.bits(w));
        behind("behind1 " + w, refusal, x.behind(w, 1), judged.coin[w]);
        behind("behind2 " + w, refusal, x.behind(w, 2), judged.isWrong(w) ? 1 : 0);
        same("told0", x.told(0), model.text.length());
        same("told1", x.told(1), Integer.parseInt(model.row));
        same("told2", x.told(2), model.pea == null ? PeaCups.NONE : model.pea - '0');
        same("told3", x.told(3), model.round);
        same("told10 " + w, x.told(10 + w), model.eyes[w]);
        same("told20 " + w, x.told(20 + w), model.coin[w]);
        same("told30 " + w, x.told(30 + w), model.bits(w));
    }

    private static void behind(String call, int refusal, int got, int want) {
        same(call, got, refusal != 0 ? refusal : want);
    }
}
