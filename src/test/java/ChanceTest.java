import java.math.BigInteger;

/** Promises 21 to 23: squares, lot, year. Years on other tables are compared in ModelTest. */
public final class ChanceTest {
    private static final Due due = new Due();

    public static void main(String[] args) {
        squares();
        squaresRefused();
        lots();
        lotsRefused();
        years();
        due.end();
    }

    private static void squares() {
        int[] takes = new int[1000];
        PeaCups x = null;
        for (int n = 0; n < 1000; n++) {
            if (n % 250 == 0) {
                x = new PeaCups();
            }
            for (int root = 1; root * root <= n && takes[n] == 0; root++) {
                if (takes[n - root * root] == 0) {
                    takes[n] = root * root;
                }
            }
            due.same("squares(" + n + ", 0)", x.squares(n, 0), takes[n] > 0 ? 1 : 0);
            due.same("squares(" + n + ", 1)", x.squares(n, 1), takes[n] > 0 ? takes[n] : PeaCups.NONE);
        }
    }

    private static void squaresRefused() {
        PeaCups x = new PeaCups();
        int[][] wrong = {{-1, 0}, {1000, 0}, {1000, 1}, {5, -1}, {5, 2}, {Integer.MAX_VALUE, 0}, {Integer.MIN_VALUE, 1}};
        for (int[] w : wrong) {
            due.same("squares(" + w[0] + ", " + w[1] + ")", x.squares(w[0], w[1]), PeaCups.OUTSIDE);
        }
    }

    /** Ways by which all 15 pairs, one behind another, bring place 0 to each place. */
    private static BigInteger[] ways(BigInteger[] from) {
        BigInteger[] to = new BigInteger[6];
        java.util.Arrays.fill(to, BigInteger.ZERO);
        for (int one = 0; one < 6; one++) {
            for (int other = one + 1; other < 6; other++) {
                for (int place = 0; place < 6; place++) {
                    int then = place == one ? other : place == other ? one : place;
                    to[then] = to[then].add(from[place]);
                }
            }
        }
        return to;
    }

    private static void fraction(PeaCups x, String call, int m, int p, int what, BigInteger upper) {
        BigInteger lower = BigInteger.valueOf(15).pow(m);
        BigInteger common = upper.gcd(lower);
        due.same(call + " 0", x.lot(m, p, what, 0), upper.divide(common).longValueExact());
        due.same(call + " 1", x.lot(m, p, what, 1), lower.divide(common).longValueExact());
    }

    private static void lots() {
        PeaCups x = new PeaCups();
        BigInteger[] ways = new BigInteger[6];
        java.util.Arrays.fill(ways, BigInteger.ZERO);
        ways[0] = BigInteger.ONE;
        for (int m = 0; m <= 12; m++) {
            for (int p = 0; p < 6; p++) {
                fraction(x, "lot(" + m + ", " + p + ", 0)", m, p, 0, ways[p]);
                fraction(x, "lot(" + m + ", " + p + ", 1)", m, p, 1, BigInteger.TEN.pow(m));
            }
            ways = ways(ways);
        }
        due.same("lot(0, 3, 0, 1)", x.lot(0, 3, 0, 1), 1);
        due.same("lot(1, 3, 0, 1)", x.lot(1, 3, 0, 1), 15);
        due.same("lot(12, 0, 1, 1)", x.lot(12, 0, 1, 1), 531441);
    }

    private static void lotsRefused() {
        PeaCups x = new PeaCups();
        int[][] wrong = {{-1, 0, 0, 0}, {13, 0, 0, 0}, {1, -1, 0, 0}, {1, 6, 0, 0}, {1, 6, 1, 0}, {1, 0, -1, 0},
            {1, 0, 2, 0}, {1, 0, 0, -1}, {1, 0, 0, 2}, {Integer.MAX_VALUE, 0, 0, 0}, {0, Integer.MIN_VALUE, 0, 0}};
        for (int[] w : wrong) {
            due.same("lot(" + w[0] + ", " + w[1] + ", " + w[2] + ", " + w[3] + ")", x.lot(w[0], w[1], w[2], w[3]),
                    -1000000000000000002L);
        }
    }

    private static void years() {
        PeaCups x = new PeaCups();
        // Seed 0 draws 74 = 8 * 9 + 2: places 3 and 1 change, 1 quick.
        due.same("year(0, 1, 0)", x.year(0, 1, 0), 0);
        due.same("year(0, 1, 1)", x.year(0, 1, 1), 0);
        due.same("year(0, 1, 2)", x.year(0, 1, 2), 20);
        due.same("nothing is done", x.told(1), 12345);
        int[][] wrong = {{-1, 1, 0}, {10000, 1, 0}, {0, 0, 0}, {0, 100, 0}, {0, 1, -1}, {0, 1, 3}};
        for (int[] w : wrong) {
            due.same("year(" + w[0] + ", " + w[1] + ", " + w[2] + ")", x.year(w[0], w[1], w[2]), PeaCups.OUTSIDE);
        }
        due.holds("year(9999, 99, 2) is told", x.year(9999, 99, 2) >= 0);
    }
}
