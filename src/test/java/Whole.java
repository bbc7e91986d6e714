import java.math.BigInteger;
import java.util.ArrayDeque;
import java.util.ArrayList;
import java.util.Arrays;
import java.util.List;
import java.util.Map;
import java.util.TreeMap;
import java.util.TreeSet;

/** All calls of the document, told a second time with the library's means; the rounds are those of Model. */
final class Whole {
    private static final int UNKNOWN = -1, OUTSIDE = -2, STATE = -3, FULL = -4, NO = -5, NONE = -6;
    private static final long GONE = -1000000000000000000L;
    private static final List<String> ROWS = new ArrayList<>();
    private static final List<String> PAIRS = new ArrayList<>();

    static {
        collect("", "012345");
        for (int one = 0; one < 6; one++) {
            for (int other = one + 1; other < 6; other++) {
                PAIRS.add("" + one + other);
            }
        }
    }

    Model now = new Model();
    private List<int[]> sights = new ArrayList<>();
    private final Model[] keptNow = new Model[2];
    private final List<List<int[]>> keptSights = new ArrayList<>(Arrays.asList(null, null));

    private static void collect(String head, String rest) {
        if (rest.isEmpty()) {
            ROWS.add(head);
        }
        for (int i = 0; i < rest.length(); i++) {
            collect(head + rest.charAt(i), rest.substring(0, i) + rest.substring(i + 1));
        }
    }

    long answer(String name, int... n) {
        switch (name) {
            case "cups":
                return cups(n[0], n[1]);
            case "watcher":
                return watcher(n[0], n[1], n[2], n[3]);
            case "say":
                return say(n[0]);
            case "wipe":
                return wipe();
            case "fault":
                return now.fault();
            case "changes":
                return changes(n[0], n[1]);
            case "by":
                return by(n[0], n[1], n[2]);
            case "rank":
                return isRow(n[0]) ? ROWS.indexOf(six(n[0])) : OUTSIDE;
            case "row":
                return n[0] >= 0 && n[0] < 720 ? Integer.parseInt(ROWS.get(n[0])) : OUTSIDE;
            case "squares":
                return squares(n[0], n[1]);
            case "lot":
                return lot(n[0], n[1], n[2], n[3]);
            case "year":
                return year(n[0], n[1], n[2]);
            default:
                return behindOrKept(name, n);
        }
    }

    private long behindOrKept(String name, int... n) {
        switch (name) {
            case "judge":
                return judge(n[0]);
            case "behind":
                return behind(n[0], n[1]);
            case "table":
                return n[0] < 0 || n[0] > 5 ? UNKNOWN : orRefusal(now.judged().row.charAt(n[0]) - '0');
            case "pea":
                return n[0] < 0 || n[0] > 1 ? OUTSIDE : orRefusal(n[0] == 0 ? now.judged().peaPlace() : peaCup(now.judged()));
            case "first":
                return first(n[0]);
            case "done":
                return done();
            case "weigh":
                return weigh(n[0], n[1], n[2]);
            case "forget":
                return forget();
            case "cases":
                return cases(n[0]);
            case "leaves":
                return isWeighing(n[0], n[1]) ? leaves(n[0], n[1]) : OUTSIDE;
            case "image":
                return image(n[0]);
            case "restore":
                return restore(n[0]);
            case "told":
                return told(n[0]);
            default:
                throw new IllegalArgumentException(name);
        }
    }

    private static String six(int row) {
        return String.format("%06d", row);
    }

    private static boolean isRow(int row) {
        return row >= 0 && ROWS.contains(six(row));
    }

    private static int peaCup(Model model) {
        return model.pea == null ? NONE : model.pea - '0';
    }

    private long cups(int row, int pea) {
        if (pea < -1 || pea > 5) {
            return UNKNOWN;
        }
        if (!isRow(row)) {
            return OUTSIDE;
        }
        int before = Integer.parseInt(now.row);
        now.row = six(row);
        now.pea = pea < 0 ? null : (Character) (char) ('0' + pea);
        return before;
    }

    private long watcher(int w, int eyes, int coin, int thinks) {
        if (w < 0 || w > 3) {
            return UNKNOWN;
        }
        if (eyes < 1 || eyes > 9 || coin < 0 || coin > 999 || thinks < 1 || thinks > 63) {
            return OUTSIDE;
        }
        int before = now.coin[w];
        now.eyes[w] = eyes;
        now.coin[w] = coin;
        now.thinks.set(w, new TreeSet<>(List.of(0, 1, 2, 3, 4, 5)));
        now.thinks.get(w).removeIf(place -> (thinks >> place & 1) == 0);
        return before;
    }

    private long say(int sign) {
        if (sign < 33 || sign > 126) {
            return OUTSIDE;
        }
        if (now.text.length() == 60) {
            return FULL;
        }
        now.text += (char) sign;
        return now.text.length();
    }

    private long wipe() {
        int before = now.text.length();
        now.text = "";
        return before;
    }

    int refusal() {
        return now.fault() != NONE ? NO : now.judged().stopped != NONE ? STATE : 0;
    }

    private long orRefusal(long answer) {
        int refusal = refusal();
        return refusal != 0 ? refusal : answer;
    }

    private long judge(int what) {
        if (what < 0 || what > 2) {
            return OUTSIDE;
        }
        if (what == 2) {
            return orRefusal(now.judged().won);
        }
        return refusal() == NO ? NO : what == 0 ? now.judged().stopped : now.judged().why;
    }

    private long behind(int w, int what) {
        if (w < 0 || w > 3) {
            return UNKNOWN;
        }
        if (what < 0 || what > 2) {
            return OUTSIDE;
        }
        Model then = now.judged();
        return orRefusal(what == 0 ? then.bits(w) : what == 1 ? then.coin[w] : then.isWrong(w) ? 1 : 0);
    }

    private long first(int what) {
        if (what < 0 || what > 2) {
            return OUTSIDE;
        }
        Model then = now.judged();
        return orRefusal(what == 0 ? then.wrongAct : what == 1 ? then.wrongWho : then.round);
    }

    private long done() {
        int refusal = refusal();
        if (refusal != 0) {
            return refusal;
        }
        now = now.judged();
        now.text = "";
        return now.acts;
    }

    /** How far each row is from one, by changes of told pairs alone. */
    private static Map<String, Integer> distances(String from, int pairs) {
        Map<String, Integer> far = new TreeMap<>(Map.of(from, 0));
        ArrayDeque<String> open = new ArrayDeque<>(List.of(from));
        while (!open.isEmpty()) {
            String row = open.remove();
            for (int pair = 0; pair < 15; pair++) {
                String then = changed(row, pair);
                if ((pairs >> pair & 1) == 1 && !far.containsKey(then)) {
                    far.put(then, far.get(row) + 1);
                    open.add(then);
                }
            }
        }
        return far;
    }

    private static String changed(String row, int pair) {
        char one = row.charAt(PAIRS.get(pair).charAt(0) - '0');
        char other = row.charAt(PAIRS.get(pair).charAt(1) - '0');
        return row.replace(one, '#').replace(other, one).replace('#', other);
    }

    private static int pairsSideBySide() {
        int set = 0;
        for (int place = 0; place < 5; place++) {
            set |= 1 << PAIRS.indexOf("" + place + (place + 1));
        }
        return set;
    }

    private long changes(int row, int what) {
        if (!isRow(row) || what < 0 || what > 1) {
            return OUTSIDE;
        }
        return distances(now.row, what == 0 ? 32767 : pairsSideBySide()).get(six(row));
    }

    private long by(int row, int pairs, int what) {
        if (!isRow(row) || pairs < 0 || pairs > 32767 || what < 0 || what > 1) {
            return OUTSIDE;
        }
        Map<String, Integer> far = distances(six(row), pairs);
        int fewest = far.getOrDefault(now.row, NONE);
        if (what == 0 || fewest <= 0) {
            return what == 0 ? fewest : NONE;
        }
        for (int pair = 0; pair < 15; pair++) {
            if ((pairs >> pair & 1) == 1 && far.get(changed(now.row, pair)) < fewest) {
                return pair;
            }
        }
        throw new IllegalStateException("no pair is first");
    }

    private static boolean isWeighing(int one, int other) {
        return one >= 1 && one <= 4095 && other >= 1 && other <= 4095
            && (one & other) == 0 && Integer.bitCount(one) == Integer.bitCount(other);
    }

    private long weigh(int one, int other, int what) {
        if (!isWeighing(one, other) || what < 0 || what > 2) {
            return OUTSIDE;
        }
        if (sights.size() == 8) {
            return FULL;
        }
        sights.add(new int[] {one, other, what});
        return sights.size();
    }

    private long forget() {
        int before = sights.size();
        sights = new ArrayList<>();
        return before;
    }

    /** Each lump weighs 10, a false one 9 or 11. */
    private static int scales(int number, int one, int other) {
        int difference = 0;
        for (int lump = 0; lump < 12; lump++) {
            int weight = number == 1 + lump ? 11 : number == 13 + lump ? 9 : 10;
            difference += (one >> lump & 1) == 1 ? weight : 0;
            difference -= (other >> lump & 1) == 1 ? weight : 0;
        }
        return difference == 0 ? 0 : difference > 0 ? 1 : 2;
    }

    private List<Integer> fitting() {
        List<Integer> fitting = new ArrayList<>();
        for (int number = 0; number <= 24; number++) {
            int asked = number;
            if (sights.stream().allMatch(sight -> scales(asked, sight[0], sight[1]) == sight[2])) {
                fitting.add(number);
            }
        }
        return fitting;
    }

    private long cases(int i) {
        List<Integer> fitting = fitting();
        if (i == -1) {
            return fitting.size();
        }
        return i >= 0 && i < fitting.size() ? fitting.get(i) : NONE;
    }

    private long leaves(int one, int other) {
        int[] left = new int[3];
        for (int number : fitting()) {
            left[scales(number, one, other)]++;
        }
        return Arrays.stream(left).max().getAsInt();
    }

    private static long squares(int n, int what) {
        if (n < 0 || n > 999 || what < 0 || what > 1) {
            return OUTSIDE;
        }
        int[] take = new int[n + 1];
        for (int heap = 0; heap <= n; heap++) {
            for (int root = 31; root >= 1; root--) {
                int rest = heap - root * root;
                take[heap] = rest >= 0 && take[rest] == 0 ? root * root : take[heap];
            }
        }
        return what == 0 ? Math.min(take[n], 1) : take[n] == 0 ? NONE : take[n];
    }

    /** All ways are followed place by place: of 15 pairs 5 move a place, each to another one. */
    private static long lot(int m, int p, int what, int part) {
        if (m < 0 || m > 12 || p < 0 || p > 5 || what < 0 || what > 1 || part < 0 || part > 1) {
            return GONE + OUTSIDE;
        }
        BigInteger[] ways = new BigInteger[6];
        Arrays.fill(ways, BigInteger.ZERO);
        ways[0] = BigInteger.ONE;
        for (int i = 0; i < m; i++) {
            BigInteger[] then = new BigInteger[6];
            for (int place = 0; place < 6; place++) {
                then[place] = ways[place].multiply(BigInteger.TEN);
                for (int from = 0; from < 6; from++) {
                    then[place] = from == place ? then[place] : then[place].add(ways[from]);
                }
            }
            ways = then;
        }
        BigInteger upper = what == 0 ? ways[p] : BigInteger.TEN.pow(m);
        BigInteger lower = BigInteger.valueOf(15).pow(m);
        return (part == 0 ? upper : lower).divide(upper.gcd(lower)).longValueExact();
    }

    private long year(int seed, int m, int what) {
        if (seed < 0 || seed > 9999 || m < 1 || m > 99 || what < 0 || what > 2) {
            return OUTSIDE;
        }
        Model then = now.year(seed, m);
        int wrong = 0;
        for (int w = 0; w < 4; w++) {
            wrong += then.isWrong(w) ? 1 : 0;
        }
        return what == 0 ? then.peaPlace() : what == 1 ? wrong : then.coin[0];
    }

    private long image(int k) {
        if (k < 0 || k > 1) {
            return OUTSIDE;
        }
        keptNow[k] = now.copy();
        keptSights.set(k, new ArrayList<>(sights));
        return 1;
    }

    private long restore(int k) {
        if (k < 0 || k > 1) {
            return OUTSIDE;
        }
        if (keptNow[k] == null) {
            return STATE;
        }
        String text = now.text;
        now = keptNow[k].copy();
        now.text = text;
        sights = new ArrayList<>(keptSights.get(k));
        return 1;
    }

    private long told(int what) {
        switch (what) {
            case 0:
                return now.text.length();
            case 1:
                return Integer.parseInt(now.row);
            case 2:
                return peaCup(now);
            case 3:
                return now.round;
            case 4:
                return sights.size();
            case 10: case 11: case 12: case 13:
                return now.eyes[what - 10];
            case 20: case 21: case 22: case 23:
                return now.coin[what - 20];
            case 30: case 31: case 32: case 33:
                return now.bits(what - 30);
            default:
                return OUTSIDE;
        }
    }
}
