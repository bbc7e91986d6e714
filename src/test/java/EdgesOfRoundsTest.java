/** The bounds that promises 7 to 12 name: judge, behind, table, pea, first, done. */
public final class EdgesOfRoundsTest {
    private static final Edges edges = new Edges();
    private static final int NONE = PeaCups.NONE, NO = PeaCups.NO, STATE = PeaCups.STATE;

    public static void main(String[] args) {
        whatBounds();
        orderOfRefusals();
        refusedByText();
        emptyPad();
        reasonOne();
        reasonTwo();
        reasonThree();
        reasonFour();
        firstActThatCanNotBe();
        fullPad();
        eyesAgainstQuick();
        everyThoughtChanged();
        everyThoughtLifted();
        handEverywhere();
        coinAtItsEnds();
        betsWon();
        wrongInEveryThought();
        whoIsWrongFirst();
        roundOfFirst();
        doneTakesTheText();
        edges.end();
    }

    private static void whatBounds() {
        edges.bounds(0, 0, 2, PeaCups.OUTSIDE, "judge", 0);
        edges.bounds(0, 0, 3, PeaCups.UNKNOWN, "behind", 0, 0);
        edges.bounds(1, 0, 2, PeaCups.OUTSIDE, "behind", 3, 0);
        edges.bounds(0, 0, 5, PeaCups.UNKNOWN, "table", 0);
        edges.bounds(0, 0, 1, PeaCups.OUTSIDE, "pea", 0);
        edges.bounds(0, 0, 2, PeaCups.OUTSIDE, "first", 0);
    }

    /** States with a fault, with an act that can not be, and with both are among those that bounds() looks at. */
    private static void orderOfRefusals() {
        for (int watcher : new int[] {-1, 4, Integer.MIN_VALUE, Integer.MAX_VALUE}) {
            for (int what : new int[] {-1, 3, Integer.MIN_VALUE, Integer.MAX_VALUE}) {
                edges.refused(PeaCups.UNKNOWN, "behind", watcher, what);
            }
        }
        edges.same("both", States.refusal("both"), NO);
        edges.answers(2, States.make("both"), "told", 2);
        edges.answers(3, States.make("both"), "fault");
    }

    private static void refusedByText() {
        for (String state : new String[] {"fault", "cannot", "both", "fullFault"}) {
            int refusal = States.refusal(state);
            edges.refusedIn(state, refusal, "judge", 2);
            for (int watcher = 0; watcher < 4; watcher++) {
                for (int what = 0; what < 3; what++) {
                    edges.refusedIn(state, refusal, "behind", watcher, what);
                }
            }
            for (int place = 0; place < 6; place++) {
                edges.refusedIn(state, refusal, "table", place);
            }
            for (int what = 0; what < 3; what++) {
                edges.refusedIn(state, refusal, "first", what);
            }
            edges.refusedIn(state, refusal, "pea", 0);
            edges.refusedIn(state, refusal, "pea", 1);
            edges.refusedIn(state, refusal, "done");
            edges.refusedIn(state, refusal == NO ? NO : 1, "judge", 0);
            edges.refusedIn(state, refusal == NO ? NO : 2, "judge", 1);
        }
    }

    private static void emptyPad() {
        PeaCups x = new PeaCups();
        edges.answers(NONE, x, "judge", 0);
        edges.answers(NONE, x, "judge", 1);
        edges.answers(0, x, "judge", 2);
        for (int w = 0; w < 4; w++) {
            edges.answers(63, x, "behind", w, 0);
            edges.answers(20, x, "behind", w, 1);
            edges.answers(0, x, "behind", w, 2);
        }
        for (int place = 0; place < 6; place++) {
            edges.answers(place, x, "table", place);
        }
        edges.answers(0, x, "pea", 0);
        edges.answers(0, x, "pea", 1);
        edges.answers(NONE, x, "first", 0);
        edges.answers(NONE, x, "first", 1);
        edges.answers(0, x, "first", 2);
        edges.answers(0, x, "done");
        edges.answers(0, x, "done");
    }

    private static void judged(PeaCups x, int act, int why) {
        edges.answers(act, x, "judge", 0);
        edges.answers(why, x, "judge", 1);
    }

    private static void reasonOne() {
        for (int one = 0; one < 6; one++) {
            for (int other = 0; other < 6; other++) {
                for (int quick : new int[] {1, 9}) {
                    PeaCups x = Due.saying("." + "s" + one + other + quick);
                    judged(x, one == other ? 1 : NONE, one == other ? 1 : NONE);
                    edges.answers(one == other ? STATE : 2, x, "done");
                }
            }
        }
    }

    private static void reasonTwo() {
        for (int pea = -1; pea < 6; pea++) {
            for (int place = 0; place < 6; place++) {
                PeaCups x = new PeaCups();
                // Cup 5 - k is on place k.
                x.cups(543210, pea);
                Due.say(x, "h" + place);
                boolean isElsewhere = pea >= 0 && pea != 5 - place;
                judged(x, isElsewhere ? 0 : NONE, isElsewhere ? 2 : NONE);
                int cup = pea >= 0 ? NONE : 5 - place;
                edges.answers(isElsewhere ? STATE : cup, x, "pea", 1);
                edges.answers(isElsewhere ? STATE : pea >= 0 ? NONE : place, x, "pea", 0);
            }
        }
    }

    private static void reasonThree() {
        for (int w = 0; w < 4; w++) {
            for (int coin = 0; coin <= 10; coin++) {
                for (int much = 1; much <= 9; much++) {
                    PeaCups x = new PeaCups();
                    x.watcher(w, 5, coin, 63);
                    Due.say(x, "" + (char) ('A' + w) + "1" + much);
                    judged(x, coin < much ? 0 : NONE, coin < much ? 3 : NONE);
                    edges.answers(coin < much ? STATE : coin - much, x, "behind", w, 1);
                }
            }
        }
        PeaCups poor = new PeaCups();
        poor.watcher(0, 5, 1, 63);
        Due.say(poor, "A01A02A04A08");
        judged(poor, NONE, NONE);
        edges.answers(16, poor, "behind", 0, 1);
        Due.say(poor, "A19A17A11");
        judged(poor, 6, 3);
        // No COIN is no matter on the winning PLACE: he has less all the same.
        PeaCups none = new PeaCups();
        none.watcher(3, 5, 0, 1);
        judged(Due.say(none, "D01"), 0, 3);
    }

    private static PeaCups atRound(int round) {
        PeaCups x = new PeaCups();
        Due.say(x, ".".repeat(Math.min(round, 60)));
        x.done();
        Due.say(x, ".".repeat(Math.max(round - 60, 0)));
        x.done();
        return x;
    }

    private static void reasonFour() {
        PeaCups x = atRound(97);
        edges.answers(97, x, "told", 3);
        Due.say(x, "..");
        judged(x, NONE, NONE);
        edges.answers(99, x, "first", 2);
        Due.say(x, ".");
        judged(x, 2, 4);
        edges.answers(STATE, x, "first", 2);
        edges.answers(STATE, x, "done");
        edges.answers(97, x, "told", 3);
        PeaCups last = atRound(99);
        edges.answers(99, last, "told", 3);
        Due.say(last, "s019l0h1h1A09");
        judged(last, NONE, NONE);
        edges.answers(5, last, "done");
        edges.answers(99, last, "told", 3);
        Due.say(last, ".");
        judged(last, 0, 4);
    }

    private static void firstActThatCanNotBe() {
        judged(Due.saying("s001h5A19"), 0, 1);
        judged(Due.saying("h5s001"), 0, 2);
        judged(Due.saying("A19A19A19h5s001"), 2, 3);
        judged(Due.say(atRound(99), "l0.s001"), 1, 4);
        judged(Due.saying("....h5"), 4, 2);
        judged(Due.saying("s001s"), NO, NO);
    }

    private static void fullPad() {
        PeaCups rounds = atRound(40);
        Due.say(rounds, ".".repeat(60));
        judged(rounds, 59, 4);
        PeaCups fewer = atRound(39);
        Due.say(fewer, ".".repeat(60));
        judged(fewer, NONE, NONE);
        edges.answers(99, fewer, "first", 2);
        edges.answers(60, fewer, "done");
        PeaCups hand = Due.saying(".".repeat(58) + "h0");
        edges.answers(58, hand, "first", 0);
        edges.answers(0, hand, "first", 1);
        edges.answers(58, hand, "first", 2);
        edges.answers(59, hand, "done");
        PeaCups changes = Due.saying("s011".repeat(15));
        edges.answers(1, changes, "pea", 0);
        edges.answers(1, changes, "table", 0);
        edges.answers(0, changes, "table", 1);
        edges.answers(15, changes, "done");
        PeaCups hands = Due.saying("h0".repeat(30));
        edges.answers(0, hands, "pea", 0);
        edges.answers(30, hands, "done");
    }

    private static void eyesAgainstQuick() {
        for (int eyes = 1; eyes <= 9; eyes++) {
            for (int quick = 1; quick <= 9; quick++) {
                for (int w = 0; w < 4; w++) {
                    PeaCups x = new PeaCups();
                    x.watcher(w, eyes, 20, 0b000101);
                    Due.say(x, "s01" + quick);
                    edges.answers(eyes >= quick ? 0b000110 : 63, x, "behind", w, 0);
                }
            }
        }
    }

    private static int exchanged(int set, int one, int other) {
        int rest = set & ~(1 << one) & ~(1 << other);
        return rest | (set >> one & 1) << other | (set >> other & 1) << one;
    }

    private static void everyThoughtChanged() {
        for (int thinks = 1; thinks <= 63; thinks++) {
            for (int one = 0; one < 6; one++) {
                for (int other = 0; other < 6; other++) {
                    PeaCups x = new PeaCups();
                    x.watcher(0, 9, 20, thinks);
                    x.watcher(1, 8, 20, thinks);
                    Due.say(x, "s" + one + other + "9");
                    boolean isOne = one == other;
                    edges.answers(isOne ? STATE : exchanged(thinks, one, other), x, "behind", 0, 0);
                    edges.answers(isOne ? STATE : 63, x, "behind", 1, 0);
                    edges.answers(isOne ? STATE : one, x, "table", other);
                    edges.answers(isOne ? STATE : other, x, "table", one);
                }
            }
        }
    }

    private static void everyThoughtLifted() {
        for (int thinks = 1; thinks <= 63; thinks++) {
            for (int pea = -1; pea < 6; pea++) {
                PeaCups x = new PeaCups();
                x.cups(12345, pea);
                x.watcher(2, 1, 20, thinks);
                for (int place = 0; place < 6; place++) {
                    x.wipe();
                    Due.say(x, "l" + place);
                    int bit = 1 << place;
                    int then = pea == place ? bit : thinks == bit ? 63 - bit : thinks & ~bit;
                    edges.answers(then, x, "behind", 2, 0);
                    edges.answers(pea == place ? bit : 63 - bit, x, "behind", 3, 0);
                    edges.answers(pea < 0 ? NONE : pea, x, "pea", 0);
                }
            }
        }
        // One lifted behind another: the last of the five others is left, and then five are again.
        PeaCups hand = new PeaCups();
        hand.cups(12345, -1);
        int[] left = {62, 60, 56, 48, 32, 31};
        for (int place = 0; place < 6; place++) {
            Due.say(hand, "l" + place);
            edges.answers(left[place], hand, "behind", 0, 0);
        }
    }

    private static void handEverywhere() {
        for (int from = 0; from < 6; from++) {
            for (int to = 0; to < 6; to++) {
                PeaCups x = new PeaCups();
                x.cups(543210, 5 - from);
                Due.say(x, "h" + from);
                edges.answers(NONE, x, "pea", 0);
                edges.answers(NONE, x, "pea", 1);
                Due.say(x, "h" + to);
                edges.answers(to, x, "pea", 0);
                edges.answers(5 - to, x, "pea", 1);
                for (int w = 0; w < 4; w++) {
                    edges.answers(63, x, "behind", w, 0);
                }
            }
        }
    }

    private static void coinAtItsEnds() {
        for (int coin : new int[] {0, 1, 8, 9, 10, 989, 990, 991, 997, 998, 999}) {
            for (int much = 1; much <= 9; much++) {
                if (coin < much) {
                    continue;
                }
                PeaCups x = new PeaCups();
                x.watcher(1, 5, coin, 63);
                Due.say(x, "B0" + much);
                edges.answers(Math.min(999, coin + much), x, "behind", 1, 1);
                x.wipe();
                Due.say(x, "B5" + much);
                edges.answers(coin - much, x, "behind", 1, 1);
                edges.answers(20, x, "behind", 0, 1);
                edges.answers(1, x, "done");
                edges.answers(coin - much, x, "told", 21);
            }
        }
        PeaCups rich = new PeaCups();
        rich.watcher(2, 5, 999, 63);
        Due.say(rich, "C09C09C19C01");
        edges.answers(991, rich, "behind", 2, 1);
        edges.answers(4, rich, "done");
        edges.answers(991, rich, "told", 22);
    }

    private static void betsWon() {
        edges.answers(0, Due.saying("A11A11"), "judge", 2);
        edges.answers(20, Due.saying("A01B01C01D01".repeat(5)), "judge", 2);
        edges.answers(2, Due.saying("A01h0A01h2A01A21"), "judge", 2);
        PeaCups rich = new PeaCups();
        rich.watcher(0, 5, 999, 63);
        edges.answers(3, Due.say(rich, "A09A09A09"), "judge", 2);
        // Bets of an earlier text do not count.
        PeaCups x = Due.saying("A01");
        x.done();
        edges.answers(0, x, "judge", 2);
        edges.answers(1, Due.say(x, "A01"), "judge", 2);
    }

    private static void wrongInEveryThought() {
        for (int thinks = 1; thinks <= 63; thinks++) {
            PeaCups x = new PeaCups();
            x.watcher(3, 5, 20, thinks);
            for (int pea = -1; pea < 6; pea++) {
                x.cups(543210, pea);
                boolean isWrong = pea < 0 || (thinks >> 5 - pea & 1) == 0;
                edges.answers(isWrong ? 1 : 0, x, "behind", 3, 2);
                edges.answers(pea < 0 ? 1 : 0, x, "behind", 0, 2);
            }
        }
    }

    private static void firstIs(PeaCups x, String text, int act, int who) {
        x.wipe();
        Due.say(x, text);
        edges.answers(act, x, "first", 0);
        edges.answers(who, x, "first", 1);
    }

    private static void whoIsWrongFirst() {
        PeaCups x = new PeaCups();
        firstIs(x, "l0l1s019A09.", NONE, NONE);
        firstIs(x, "h0", 0, 0);
        firstIs(x, "l0.h0h1", 2, 0);
        for (int w = 0; w < 4; w++) {
            PeaCups right = new PeaCups();
            for (int other = 0; other < 4; other++) {
                right.watcher(other, 5, 20, other < w ? 2 : 1);
            }
            // Those below w are WRONG already ahead of the first act.
            firstIs(right, ".h0", 1, w);
        }
        PeaCups all = new PeaCups();
        for (int w = 0; w < 4; w++) {
            all.watcher(w, 5, 20, 2);
        }
        firstIs(all, "h0", NONE, NONE);
        firstIs(all, "h0h0", NONE, NONE);
        firstIs(all, "h0h1h1", 2, 0);
        firstIs(all, "l0h0", 1, 0);
        PeaCups inHand = new PeaCups();
        inHand.cups(12345, -1);
        firstIs(inHand, "l0l1h2", NONE, NONE);
        firstIs(inHand, "h0h0h0h0", 1, 0);
        inHand.watcher(0, 5, 20, 2);
        firstIs(inHand, "h0h0", 1, 1);
    }

    /** The round behind the text, also where nobody is wrong. */
    private static void roundOfFirst() {
        edges.answers(0, Due.saying("h0"), "first", 2);
        edges.answers(2, Due.saying(".."), "first", 2);
        PeaCups x = atRound(98);
        edges.answers(98, x, "first", 2);
        edges.answers(99, Due.say(x, ".l0"), "first", 2);
    }

    private static void doneTakesTheText() {
        PeaCups x = States.make("rich");
        edges.answers(4, x, "done");
        edges.answers(0, x, "told", 0);
        edges.answers(31245, x, "told", 1);
        edges.answers(6, x, "told", 3);
        edges.answers(0, x, "done");
        edges.answers(31245, x, "told", 1);
        edges.answers(6, x, "told", 3);
        PeaCups y = States.make("full");
        edges.answers(15, y, "done");
        edges.answers(453210, y, "told", 1);
        edges.answers(NONE, y, "told", 2);
        edges.answers(99, y, "told", 3);
        edges.answers(8, y, "told", 4);
        edges.answers(63, y, "told", 31);
        edges.answers(32, y, "told", 32);
        edges.answers(1, y, "say", '.');
    }
}
