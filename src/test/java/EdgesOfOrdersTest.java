import java.util.TreeSet;

/** The bounds that promises 13 to 16 name, and which numbers are a ROW, for each call that asks for one. */
public final class EdgesOfOrdersTest {
    private static final Edges edges = new Edges();
    private static final int NONE = PeaCups.NONE, OUTSIDE = PeaCups.OUTSIDE, ALL = 32767;
    private static final TreeSet<Integer> rows = new TreeSet<>();
    /** The document's numbering: 01, 02, .. 05, 12, .. 45. */
    private static final String[] PAIRS =
        {"01", "02", "03", "04", "05", "12", "13", "14", "15", "23", "24", "25", "34", "35", "45"};

    public static void main(String[] args) {
        collect("", "012345");
        everyNumberIsARowOrNot();
        outermostNumbers();
        whatAndPairBounds();
        rankBounds();
        noChange();
        mostChanges();
        endsAreNotSideBySide();
        everyPairAlone();
        noPairs();
        leastPair();
        nowAndNotBehindTheText();
        theHandIsNoMatter();
        edges.end();
    }

    private static void collect(String head, String rest) {
        if (rest.isEmpty()) {
            rows.add(Integer.parseInt(head));
        }
        for (int i = 0; i < rest.length(); i++) {
            collect(head + rest.charAt(i), rest.substring(0, i) + rest.substring(i + 1));
        }
    }

    /** Every number of up to six digits, and some beyond on both sides. */
    private static void everyNumberIsARowOrNot() {
        PeaCups x = new PeaCups();
        int rank = 0;
        int before = 12345;
        for (int number = -2000; number < 1002000; number++) {
            if (number % 100 == 0) {
                x = new PeaCups();
                before = 12345;
            }
            boolean isRow = rows.contains(number);
            edges.same("rank(" + number + ")", x.rank(number), isRow ? rank : OUTSIDE);
            int changes = x.changes(number, 0);
            edges.same("changes(" + number + ", 0)", isRow == (changes >= 0) ? 1 : 0, 1);
            edges.same("by(" + number + ", 0, 0)", x.by(number, 0, 0), !isRow ? OUTSIDE : number == before ? 0 : NONE);
            edges.same("cups(" + number + ", -1)", x.cups(number, -1), isRow ? before : OUTSIDE);
            before = isRow ? number : before;
            rank += isRow ? 1 : 0;
        }
        edges.same("rows", rank, 720);
    }

    private static void outermostNumbers() {
        for (int row : new int[] {12344, 12346, 543209, 543211, 1012345, 1543210, 0, -1, -12345, -543210,
            12345 + (1 << 20), 12345 + (1 << 31), Integer.MIN_VALUE, Integer.MAX_VALUE}) {
            edges.refused(OUTSIDE, "rank", row);
            edges.refused(OUTSIDE, "changes", row, 0);
            edges.refused(OUTSIDE, "changes", row, 1);
            edges.refused(OUTSIDE, "changes", row, 2);
            edges.refused(OUTSIDE, "by", row, ALL, 0);
            edges.refused(OUTSIDE, "by", row, 0, 1);
            edges.refused(OUTSIDE, "by", row, -1, 2);
        }
    }

    private static void whatAndPairBounds() {
        edges.bounds(1, 0, 1, OUTSIDE, "changes", 12345, 0);
        edges.bounds(1, 0, 1, OUTSIDE, "changes", 543210, 0);
        edges.bounds(1, 0, ALL, OUTSIDE, "by", 12345, 0, 0);
        edges.bounds(1, 0, ALL, OUTSIDE, "by", 102345, 0, 1);
        edges.bounds(2, 0, 1, OUTSIDE, "by", 12345, 0, 0);
        edges.bounds(2, 0, 1, OUTSIDE, "by", 543210, ALL, 0);
        edges.refused(OUTSIDE, "by", 12345, 32768, 2);
    }

    private static void rankBounds() {
        edges.bounds(0, 0, 719, OUTSIDE, "row", 0);
        edges.answersNew(12345, "row", 0);
        edges.answersNew(543210, "row", 719);
        edges.answersNew(0, "rank", 12345);
        edges.answersNew(719, "rank", 543210);
        edges.answersNew(119, "rank", 54321);
        edges.answersNew(120, "rank", 102345);
        edges.answersNew(54321, "row", 119);
        edges.answersNew(102345, "row", 120);
    }

    private static void noChange() {
        for (int row : rows) {
            PeaCups x = new PeaCups();
            x.cups(row, 0);
            edges.answers(0, x, "changes", row, 0);
            edges.answers(0, x, "changes", row, 1);
            edges.answers(0, x, "by", row, 0, 0);
            edges.answers(NONE, x, "by", row, 0, 1);
            edges.answers(0, x, "by", row, ALL, 0);
            edges.answers(NONE, x, "by", row, ALL, 1);
        }
    }

    /** Five of any two move six cups round; fifteen side by side turn the order about. */
    private static void mostChanges() {
        edges.answersNew(5, "changes", 123450, 0);
        edges.answersNew(5, "changes", 501234, 0);
        edges.answersNew(15, "changes", 543210, 1);
        edges.answersNew(15, "by", 543210, 1 | 1 << 5 | 1 << 9 | 1 << 12 | 1 << 14, 0);
        int most = 0;
        int mostBeside = 0;
        PeaCups x = new PeaCups();
        int asked = 0;
        for (int row : rows) {
            if (asked++ % 200 == 0) {
                x = new PeaCups();
            }
            most = Math.max(most, x.changes(row, 0));
            mostBeside = Math.max(mostBeside, x.changes(row, 1));
        }
        edges.same("the most of any two", most, 5);
        edges.same("the most side by side", mostBeside, 15);
    }

    private static void endsAreNotSideBySide() {
        edges.answersNew(1, "changes", 512340, 0);
        edges.answersNew(9, "changes", 512340, 1);
        for (int place = 0; place < 5; place++) {
            PeaCups x = Due.saying("s" + place + (place + 1) + "1");
            x.done();
            edges.answers(1, x, "changes", 12345, 0);
            edges.answers(1, x, "changes", 12345, 1);
        }
    }

    private static void everyPairAlone() {
        for (int pair = 0; pair < 15; pair++) {
            PeaCups x = Due.saying("s" + PAIRS[pair] + "1");
            x.done();
            for (int told = 0; told < 15; told++) {
                boolean isIt = told == pair;
                edges.answers(isIt ? 1 : NONE, x, "by", 12345, 1 << told, 0);
                edges.answers(isIt ? pair : NONE, x, "by", 12345, 1 << told, 1);
            }
            edges.answers(1, x, "by", 12345, ALL, 0);
            edges.answers(pair, x, "by", 12345, ALL, 1);
        }
    }

    private static void noPairs() {
        edges.answersNew(0, "by", 12345, 0, 0);
        edges.answersNew(NONE, "by", 12345, 0, 1);
        edges.answersNew(NONE, "by", 12354, 0, 0);
        edges.answersNew(NONE, "by", 543210, 0, 1);
        // Place 5 is in none of the pairs of the others.
        int withoutFive = ALL & ~(1 << 4 | 1 << 8 | 1 << 11 | 1 << 13 | 1 << 14);
        edges.answersNew(NONE, "by", 12354, withoutFive, 0);
        edges.answersNew(NONE, "by", 12354, withoutFive, 1);
        edges.answersNew(1, "by", 12435, withoutFive, 0);
    }

    private static void leastPair() {
        // 1 and 2, 3 and 4 are to change: either can be first, and 12 is the least.
        edges.answersNew(5, "by", 21435, ALL, 1);
        edges.answersNew(5, "by", 21435, 1 << 5 | 1 << 12, 1);
        edges.answersNew(12, "by", 12435, 1 << 5 | 1 << 12, 1);
        // Three cups round: each of 01, 02, 12 can be first.
        edges.answersNew(0, "by", 120345, 1 | 2 | 32, 1);
        edges.answersNew(2, "by", 120345, 1 | 2 | 32, 0);
        // Without 01 only 12 can: behind 02 it would be 01 that is wanted.
        edges.answersNew(5, "by", 120345, 2 | 32, 1);
        edges.answersNew(2, "by", 120345, 2 | 32, 0);
    }

    private static void nowAndNotBehindTheText() {
        PeaCups x = Due.saying("s011");
        edges.answers(0, x, "changes", 12345, 0);
        edges.answers(1, x, "changes", 102345, 1);
        edges.answers(1, x, "by", 102345, 1, 0);
        x.done();
        edges.answers(1, x, "changes", 12345, 0);
        edges.answers(0, x, "changes", 102345, 1);
        edges.answers(0, x, "by", 102345, 1, 0);
        PeaCups broken = Due.saying("s");
        edges.answers(0, broken, "changes", 12345, 1);
        edges.answers(5, broken, "by", 543210, 31 | 1 << 9, 0);
    }

    private static void theHandIsNoMatter() {
        PeaCups x = new PeaCups();
        x.cups(12345, -1);
        edges.answers(3, x, "changes", 543210, 0);
        edges.answers(15, x, "changes", 543210, 1);
        edges.answers(4, x, "by", 543210, ALL, 1);
    }
}
