import java.util.ArrayList;
import java.util.HashSet;
import java.util.List;
import java.util.Set;
import java.util.TreeSet;
import java.util.regex.Matcher;
import java.util.regex.Pattern;

/** The rounds, told a second time with other means than the class has: sets, texts, patterns. */
final class Model {
    private static final Pattern TEXT =
        Pattern.compile("(?:s[0-5][0-5][1-9]|[lh][0-5]|[A-D][0-5][1-9]|\\.)*");
    private static final Pattern ACT = Pattern.compile("s...|[lh].|[A-D]..|\\.");

    String text = "";
    String row = "012345";
    /** The cup's digit; null: in the hand. */
    Character pea = '0';
    int round = 0;
    final int[] eyes = {5, 5, 5, 5};
    final int[] coin = {20, 20, 20, 20};
    final List<Set<Integer>> thinks = new ArrayList<>();

    int acts;
    int stopped;
    int why;
    int won;
    int wrongAct;
    int wrongWho;

    Model() {
        for (int w = 0; w < 4; w++) {
            thinks.add(all());
        }
    }

    private static Set<Integer> all() {
        return new TreeSet<>(List.of(0, 1, 2, 3, 4, 5));
    }

    Model copy() {
        Model m = new Model();
        m.text = text;
        m.row = row;
        m.pea = pea;
        m.round = round;
        for (int w = 0; w < 4; w++) {
            m.eyes[w] = eyes[w];
            m.coin[w] = coin[w];
            m.thinks.set(w, new TreeSet<>(thinks.get(w)));
        }
        return m;
    }

    int fault() {
        for (int n = 1; n <= text.length(); n++) {
            Matcher matcher = TEXT.matcher(text.substring(0, n));
            if (!matcher.matches() && !matcher.hitEnd()) {
                return n - 1;
            }
        }
        return TEXT.matcher(text).matches() ? PeaCups.NONE : text.length();
    }

    int peaPlace() {
        return pea == null ? PeaCups.NONE : row.indexOf(pea);
    }

    boolean isWrong(int w) {
        return pea == null || !thinks.get(w).contains(peaPlace());
    }

    int bits(int w) {
        int bits = 0;
        for (int place : thinks.get(w)) {
            bits += 1 << place;
        }
        return bits;
    }

    /** All that comes of the text, on a copy. */
    Model judged() {
        Model m = copy();
        m.stopped = m.why = m.wrongAct = m.wrongWho = PeaCups.NONE;
        if (fault() != PeaCups.NONE) {
            return m;
        }
        Matcher matcher = ACT.matcher(text);
        while (matcher.find()) {
            Set<Integer> right = new HashSet<>();
            for (int w = 0; w < 4; w++) {
                if (!m.isWrong(w)) {
                    right.add(w);
                }
            }
            int reason = m.act(matcher.group());
            if (reason != 0) {
                m.stopped = m.acts;
                m.why = reason;
                break;
            }
            for (int w = 0; w < 4; w++) {
                if (m.wrongAct == PeaCups.NONE && right.contains(w) && m.isWrong(w)) {
                    m.wrongAct = m.acts;
                    m.wrongWho = w;
                }
            }
            m.acts++;
        }
        return m;
    }

    /** Does an act if it can be; why not, else 0. */
    int act(String act) {
        switch (act.charAt(0)) {
            case 's':
                return change(act.charAt(1) - '0', act.charAt(2) - '0', act.charAt(3) - '0');
            case 'l':
                lift(act.charAt(1) - '0');
                return 0;
            case 'h':
                return hand(act.charAt(1) - '0');
            case '.':
                if (round == 99) {
                    return 4;
                }
                round++;
                return 0;
            default:
                return bet(act.charAt(0) - 'A', act.charAt(1) - '0', act.charAt(2) - '0');
        }
    }

    private int change(int one, int other, int quick) {
        if (one == other) {
            return 1;
        }
        StringBuilder signs = new StringBuilder(row);
        signs.setCharAt(one, row.charAt(other));
        signs.setCharAt(other, row.charAt(one));
        row = signs.toString();
        for (int w = 0; w < 4; w++) {
            Set<Integer> then = new TreeSet<>();
            for (int place : thinks.get(w)) {
                then.add(place == one ? other : place == other ? one : place);
            }
            thinks.set(w, eyes[w] < quick ? all() : then);
        }
        return 0;
    }

    private void lift(int place) {
        for (int w = 0; w < 4; w++) {
            Set<Integer> then = thinks.get(w);
            if (peaPlace() == place) {
                then.clear();
                then.add(place);
            } else if (then.remove(place) && then.isEmpty()) {
                then.addAll(all());
                then.remove(place);
            }
        }
    }

    private int hand(int place) {
        if (pea == null) {
            pea = row.charAt(place);
            return 0;
        }
        if (row.charAt(place) != pea) {
            return 2;
        }
        pea = null;
        return 0;
    }

    private int bet(int w, int place, int much) {
        if (coin[w] < much) {
            return 3;
        }
        if (pea != null && row.charAt(place) == pea) {
            won++;
            coin[w] = Math.min(999, coin[w] + much);
        } else {
            coin[w] -= much;
        }
        return 0;
    }

    Model year(int seed, int m) {
        Model then = copy();
        long x = seed;
        for (int i = 0; i < m; i++) {
            x = (75 * x + 74) % 65537;
            long y = x / 8;
            String act;
            if (x % 8 < 4) {
                act = "s" + y % 6 + (y / 6) % 6 + (1 + (y / 36) % 9);
            } else if (x % 8 == 7) {
                act = ".";
            } else if (x % 8 == 6) {
                act = "" + (char) ('A' + y % 4) + (y / 4) % 6 + "1";
            } else {
                act = (x % 8 == 4 ? "l" : "h") + y % 6;
            }
            then.act(act);
        }
        return then;
    }
}
