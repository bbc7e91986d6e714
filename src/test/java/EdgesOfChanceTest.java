/** The bounds that promises 21 to 23 name: squares, lot, year. */
public final class EdgesOfChanceTest {
    private static final Edges edges = new Edges();
    private static final int NONE = PeaCups.NONE, OUTSIDE = PeaCups.OUTSIDE;
    private static final long REFUSED = -1000000000000000002L;

    public static void main(String[] args) {
        squaresBounds();
        squaresAtTheEnds();
        lotBounds();
        lotOfNoChange();
        lotOfOneAndTwelve();
        neverMovedAnywhere();
        yearBounds();
        firstDraws();
        everySeed();
        everyLength();
        yearAtTheEdges();
        nothingIsDone();
        edges.end();
    }

    private static void squaresBounds() {
        edges.bounds(0, 0, 999, OUTSIDE, "squares", 0, 0);
        edges.bounds(0, 0, 999, OUTSIDE, "squares", 0, 1);
        edges.bounds(1, 0, 1, OUTSIDE, "squares", 0, 0);
        edges.bounds(1, 0, 1, OUTSIDE, "squares", 999, 0);
        edges.refused(OUTSIDE, "squares", 1000, 2);
    }

    /** Who can not take has lost: of 0 nobody can, and of 1 who begins leaves 0. */
    private static void squaresAtTheEnds() {
        int[] heaps = {0, 1, 2, 3, 4, 5, 6, 7, 8, 9, 10, 12, 16, 999};
        int[] takes = {NONE, 1, NONE, 1, 4, NONE, 1, NONE, 1, 4, NONE, NONE, 1, 9};
        for (int i = 0; i < heaps.length; i++) {
            edges.answersNew(takes[i] == NONE ? 0 : 1, "squares", heaps[i], 0);
            edges.answersNew(takes[i], "squares", heaps[i], 1);
        }
        // What is asked first is no matter.
        PeaCups x = new PeaCups();
        edges.answers(9, x, "squares", 999, 1);
        edges.answers(NONE, x, "squares", 0, 1);
        edges.answers(0, x, "squares", 0, 0);
        edges.answers(1, x, "squares", 999, 0);
    }

    private static void lotBounds() {
        for (int what = 0; what < 2; what++) {
            for (int part = 0; part < 2; part++) {
                edges.bounds(0, 0, 12, REFUSED, "lot", 0, 0, what, part);
                edges.bounds(1, 0, 5, REFUSED, "lot", 12, 0, what, part);
            }
        }
        edges.bounds(2, 0, 1, REFUSED, "lot", 1, 1, 0, 0);
        edges.bounds(3, 0, 1, REFUSED, "lot", 1, 1, 0, 0);
        edges.refused(REFUSED, "lot", 13, 6, 2, 2);
        edges.refused(REFUSED, "lot", -1, -1, -1, -1);
        edges.same("GONE and OUTSIDE", PeaCups.GONE + OUTSIDE, REFUSED);
    }

    private static void lot(long upper, long lower, int m, int p, int what) {
        edges.answersNew(upper, "lot", m, p, what, 0);
        edges.answersNew(lower, "lot", m, p, what, 1);
    }

    private static void lotOfNoChange() {
        lot(1, 1, 0, 0, 0);
        for (int p = 1; p < 6; p++) {
            lot(0, 1, 0, p, 0);
        }
        for (int p = 0; p < 6; p++) {
            lot(1, 1, 0, p, 1);
        }
    }

    private static void lotOfOneAndTwelve() {
        lot(2, 3, 1, 0, 0);
        for (int p = 1; p < 6; p++) {
            lot(1, 15, 1, p, 0);
        }
        lot(7, 15, 2, 0, 0);
        lot(8, 75, 2, 5, 0);
        // Home: 1/6 and 5/6 of 3/5 to the m; anywhere else: 1/6 less 1/6 of that. 3 to the 12 is 531441, 5: 244140625.
        long sixths = 244140625L * 6;
        reduced(244140625L + 5 * 531441L, sixths, 12, 0);
        reduced(244140625L - 531441L, sixths, 12, 5);
    }

    /** The class may tell of larger common divisors only what is equal, in lowest terms. */
    private static void reduced(long upper, long lower, int m, int p) {
        long one = upper;
        long other = lower;
        while (other != 0) {
            long rest = one % other;
            one = other;
            other = rest;
        }
        lot(upper / one, lower / one, m, p, 0);
    }

    private static void neverMovedAnywhere() {
        long upper = 1;
        long lower = 1;
        for (int m = 0; m <= 12; m++) {
            for (int p = 0; p < 6; p++) {
                lot(upper, lower, m, p, 1);
            }
            upper *= 2;
            lower *= 3;
        }
    }

    private static void yearBounds() {
        edges.bounds(0, 0, 9999, OUTSIDE, "year", 0, 1, 0);
        edges.bounds(0, 0, 9999, OUTSIDE, "year", 0, 99, 2);
        edges.bounds(1, 1, 99, OUTSIDE, "year", 0, 1, 0);
        edges.bounds(1, 1, 99, OUTSIDE, "year", 9999, 1, 1);
        edges.bounds(2, 0, 2, OUTSIDE, "year", 0, 1, 0);
        edges.bounds(2, 0, 2, OUTSIDE, "year", 9999, 99, 0);
        edges.refused(OUTSIDE, "year", 10000, 100, 3);
        edges.refused(OUTSIDE, "year", -1, 0, -1);
    }

    /** Draws written out by hand: 75 x and 74, left over by 65537. */
    private static void firstDraws() {
        // Seed 0: 74 is 9 times 8 and 2: PLACES 3 and 1 change; the next, 5624, is 703 times 8: PLACES 1 and 3.
        PeaCups x = new PeaCups();
        x.cups(12345, 1);
        edges.answers(3, x, "year", 0, 1, 0);
        edges.answers(1, x, "year", 0, 2, 0);
        // Seed 9999: 29092 is 3636 times 8 and 4: PLACE 0 is lifted.
        PeaCups y = new PeaCups();
        for (int w = 0; w < 4; w++) {
            y.watcher(w, 5, 20, w == 0 ? 1 : 3);
        }
        edges.answers(0, y, "year", 9999, 1, 1);
        y.cups(12345, 5);
        edges.answers(5, y, "year", 9999, 1, 0);
        edges.answers(3, y, "year", 9999, 1, 1);
        edges.answers(20, y, "year", 9999, 1, 2);
        // Seed 1: 149 is 18 times 8 and 5: the HAND at PLACE 0.
        edges.answersNew(NONE, "year", 1, 1, 0);
        edges.answersNew(4, "year", 1, 1, 1);
        edges.answers(5, y, "year", 1, 1, 0);
        // Seed 4: 374 is 46 times 8 and 6: WATCHER 2 bets.
        edges.answersNew(20, "year", 4, 1, 2);
        // Seed 20: 1574 is 196 times 8 and 6: WATCHER 0 bets 1 on PLACE 49 left over by 6.
        int[] coins = {0, 1, 20, 998, 999};
        int[] won = {0, 2, 21, 999, 999};
        int[] lost = {0, 0, 19, 997, 998};
        for (int i = 0; i < coins.length; i++) {
            PeaCups z = new PeaCups();
            z.watcher(0, 5, coins[i], 63);
            edges.answers(lost[i], z, "year", 20, 1, 2);
            z.cups(12345, 1);
            edges.answers(won[i], z, "year", 20, 1, 2);
            z.cups(12345, -1);
            edges.answers(lost[i], z, "year", 20, 1, 2);
        }
    }

    private static void yearIs(PeaCups x, Model now, int seed, int m) {
        Model then = now.year(seed, m);
        int wrong = 0;
        for (int w = 0; w < 4; w++) {
            wrong += then.isWrong(w) ? 1 : 0;
        }
        edges.same("year(" + seed + ", " + m + ", 0)", x.year(seed, m, 0), then.peaPlace());
        edges.same("year(" + seed + ", " + m + ", 1)", x.year(seed, m, 1), wrong);
        edges.same("year(" + seed + ", " + m + ", 2)", x.year(seed, m, 2), then.coin[0]);
    }

    private static void everySeed() {
        PeaCups x = new PeaCups();
        Model now = new Model();
        for (int seed = 0; seed <= 9999; seed++) {
            if (seed % 50 == 0) {
                x = new PeaCups();
            }
            yearIs(x, now, seed, 1);
            yearIs(x, now, seed, 99);
        }
    }

    private static void everyLength() {
        for (int seed : new int[] {0, 1, 5000, 9998, 9999}) {
            PeaCups x = new PeaCups();
            for (int m = 1; m <= 99; m++) {
                yearIs(x, new Model(), seed, m);
            }
        }
    }

    /** From round 99, from no COIN, from 999, from the HAND, from every thought alone. */
    private static void yearAtTheEdges() {
        for (int coin : new int[] {0, 1, 998, 999}) {
            for (int hand = 0; hand < 2; hand++) {
                Model now = new Model();
                PeaCups x = new PeaCups();
                now.round = 99;
                Due.say(x, ".".repeat(60));
                x.done();
                Due.say(x, ".".repeat(39));
                x.done();
                now.pea = hand == 1 ? null : (Character) '5';
                x.cups(12345, hand == 1 ? -1 : 5);
                for (int w = 0; w < 4; w++) {
                    now.coin[w] = coin;
                    now.eyes[w] = w == 0 ? 9 : w;
                    now.thinks.get(w).removeIf(place -> place != 5);
                    x.watcher(w, now.eyes[w], coin, 32);
                }
                for (int seed = 0; seed <= 9999; seed += 300) {
                    yearIs(x, now, seed, 1);
                    yearIs(x, now, seed, 30);
                    yearIs(x, now, seed, 99);
                }
            }
        }
    }

    private static void nothingIsDone() {
        for (String state : States.NAMES) {
            for (int what = 0; what < 3; what++) {
                PeaCups x = States.make(state);
                x.year(9999, 99, what);
                edges.same(state + ": a year changes nothing",
                    States.shown(x).equals(States.shown(States.make(state))) ? 1 : 0, 1);
            }
        }
        // The text on the PAD is no matter for a year, whether it can be or not.
        for (String text : new String[] {"s", "h5", "s011h1", "!"}) {
            PeaCups x = Due.saying(text);
            yearIs(x, new Model(), 77, 99);
        }
    }
}
