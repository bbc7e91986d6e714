import java.util.ArrayDeque;
import java.util.ArrayList;
import java.util.HashMap;
import java.util.List;
import java.util.Map;

/** Promises 13 to 16: changes, by, rank, row; against a search over texts of six digits. */
public final class OrdersTest {
    private static final Due due = new Due();
    private static final String[] PAIRS =
        {"01", "02", "03", "04", "05", "12", "13", "14", "15", "23", "24", "25", "34", "35", "45"};
    private static final int ALL = 32767;
    private static final int NEIGHBOURS = 1 | 1 << 5 | 1 << 9 | 1 << 12 | 1 << 14;
    private static List<String> all;

    public static void main(String[] args) {
        all = new ArrayList<>();
        collect("", "012345");
        ranks();
        changes();
        pairs();
        refused();
        due.end();
    }

    private static void collect(String head, String rest) {
        if (rest.isEmpty()) {
            all.add(head);
        }
        for (int i = 0; i < rest.length(); i++) {
            collect(head + rest.charAt(i), rest.substring(0, i) + rest.substring(i + 1));
        }
    }

    private static String changed(String order, int pair) {
        int one = PAIRS[pair].charAt(0) - '0';
        int other = PAIRS[pair].charAt(1) - '0';
        char[] signs = order.toCharArray();
        char kept = signs[one];
        signs[one] = signs[other];
        signs[other] = kept;
        return new String(signs);
    }

    private static Map<String, Integer> distances(String from, int pairs) {
        Map<String, Integer> far = new HashMap<>();
        far.put(from, 0);
        ArrayDeque<String> open = new ArrayDeque<>(List.of(from));
        while (!open.isEmpty()) {
            String order = open.remove();
            for (int pair = 0; pair < 15; pair++) {
                if ((pairs >> pair & 1) == 1 && far.putIfAbsent(changed(order, pair), far.get(order) + 1) == null) {
                    open.add(changed(order, pair));
                }
            }
        }
        return far;
    }

    private static void ranks() {
        PeaCups x = new PeaCups();
        for (int rank = 0; rank < 720; rank++) {
            x = rank % 240 == 0 ? new PeaCups() : x;
            int row = Integer.parseInt(all.get(rank));
            due.same("rank(" + row + ")", x.rank(row), rank);
            due.same("row(" + rank + ")", x.row(rank), row);
        }
        due.same("row(-1)", x.row(-1), PeaCups.OUTSIDE);
        due.same("row(720)", x.row(720), PeaCups.OUTSIDE);
    }

    private static void changes() {
        for (String from : new String[] {"012345", "543210", "301245", "254013"}) {
            Map<String, Integer> any = distances(from, ALL);
            Map<String, Integer> beside = distances(from, NEIGHBOURS);
            for (String to : all) {
                PeaCups x = new PeaCups();
                x.cups(Integer.parseInt(from), 0);
                int row = Integer.parseInt(to);
                due.same(from + " changes(" + row + ", 0)", x.changes(row, 0), any.get(to));
                due.same(from + " changes(" + row + ", 1)", x.changes(row, 1), beside.get(to));
            }
        }
    }

    private static void pairs() {
        int[] sets = {0, 1, 31, 33, 16, NEIGHBOURS, ALL, 1 | 1 << 5 | 1 << 9 | 1 << 12, 0b100000000100001,
            1 << 4 | 1 << 5 | 1 << 12, 0b010101010101010, 31 << 10, 3 << 13};
        for (String from : new String[] {"012345", "431052"}) {
            for (int set : sets) {
                PeaCups x = new PeaCups();
                x.cups(Integer.parseInt(from), -1);
                for (int i = 0; i < 720; i += 7) {
                    byIs(x, from, all.get(i), set);
                }
                byIs(x, from, from, set);
                byIs(x, from, "543210", set);
            }
        }
        byIs(new PeaCups(), "012345", "543210", NEIGHBOURS);
        PeaCups last = new PeaCups();
        last.cups(543210, 0);
        byIs(last, "543210", "012345", NEIGHBOURS);
        byIs(last, "543210", "345012", 31);
    }

    private static void byIs(PeaCups x, String from, String to, int set) {
        Map<String, Integer> far = distances(to, set);
        int fewest = far.getOrDefault(from, PeaCups.NONE);
        int least = PeaCups.NONE;
        for (int pair = 14; pair >= 0 && fewest > 0; pair--) {
            if ((set >> pair & 1) == 1 && far.get(changed(from, pair)) == fewest - 1) {
                least = pair;
            }
        }
        int row = Integer.parseInt(to);
        due.same(from + " by(" + row + ", " + set + ", 0)", x.by(row, set, 0), fewest);
        due.same(from + " by(" + row + ", " + set + ", 1)", x.by(row, set, 1), least);
    }

    private static void refused() {
        PeaCups x = new PeaCups();
        for (int row : new int[] {-1, 0, 12344, 11345, 543211, 60000, 1012345, Integer.MAX_VALUE, Integer.MIN_VALUE}) {
            due.same("rank(" + row + ")", x.rank(row), PeaCups.OUTSIDE);
            due.same("changes(" + row + ", 0)", x.changes(row, 0), PeaCups.OUTSIDE);
            due.same("by(" + row + ", 1, 0)", x.by(row, 1, 0), PeaCups.OUTSIDE);
        }
        for (int what : new int[] {-1, 2, Integer.MAX_VALUE, Integer.MIN_VALUE}) {
            due.same("changes(12345, " + what + ")", x.changes(12345, what), PeaCups.OUTSIDE);
            due.same("by(12345, 1, " + what + ")", x.by(12345, 1, what), PeaCups.OUTSIDE);
        }
        due.same("by(12345, -1, 0)", x.by(12345, -1, 0), PeaCups.OUTSIDE);
        due.same("by(12345, 32768, 0)", x.by(12345, 32768, 0), PeaCups.OUTSIDE);
        due.same("the text is no matter", Due.say(x, "s011").changes(12345, 0), 0);
        due.same("nor for by", x.by(102345, 1, 0), 1);
    }
}
