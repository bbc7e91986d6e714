/** Promises 7 to 12: judge, behind, table, pea, first, done. */
public final class RoundsTest {
    private static final Due due = new Due();

    public static void main(String[] args) {
        judge();
        reasons();
        orderOfRefusals();
        behindChanges();
        behindLifts();
        behindBets();
        wrong();
        tableAndPea();
        first();
        done();
        lastRound();
        due.end();
    }

    private static void judged(String text, int act, int why, int won) {
        PeaCups x = Due.saying(text);
        due.same(text + " judge(0)", x.judge(0), act);
        due.same(text + " judge(1)", x.judge(1), why);
        due.same(text + " judge(2)", x.judge(2), won);
        due.same(text + " judge(3)", x.judge(3), PeaCups.OUTSIDE);
        due.same(text + " judge(-1)", x.judge(-1), PeaCups.OUTSIDE);
        due.same(text + " stays", x.told(0), text.length());
    }

    private static void judge() {
        judged("", PeaCups.NONE, PeaCups.NONE, 0);
        judged("A01B11C09", PeaCups.NONE, PeaCups.NONE, 2);
        judged("s", PeaCups.NO, PeaCups.NO, PeaCups.NO);
        judged("s001x", PeaCups.NO, PeaCups.NO, PeaCups.NO);
    }

    private static void reasons() {
        judged("s001", 0, 1, PeaCups.STATE);
        judged(".s551h4", 1, 1, PeaCups.STATE);
        judged("h1", 0, 2, PeaCups.STATE);
        judged("h0h5h0", 2, 2, PeaCups.STATE);
        judged("s051h5h0", PeaCups.NONE, PeaCups.NONE, 0);
        judged("A19A19A13", 2, 3, PeaCups.STATE);
        judged("A19A19A12", PeaCups.NONE, PeaCups.NONE, 0);
        judged("A09h0A09", PeaCups.NONE, PeaCups.NONE, 1);
    }

    private static void orderOfRefusals() {
        PeaCups broken = Due.saying("l");
        due.same("behind(4, 9) NO", broken.behind(4, 9), PeaCups.UNKNOWN);
        due.same("behind(-1, 0) NO", broken.behind(-1, 0), PeaCups.UNKNOWN);
        due.same("behind(0, 3) NO", broken.behind(0, 3), PeaCups.OUTSIDE);
        due.same("behind(0, -1) NO", broken.behind(0, -1), PeaCups.OUTSIDE);
        due.same("table(6) NO", broken.table(6), PeaCups.UNKNOWN);
        due.same("table(-1) NO", broken.table(-1), PeaCups.UNKNOWN);
        due.same("pea(2) NO", broken.pea(2), PeaCups.OUTSIDE);
        due.same("pea(-1) NO", broken.pea(-1), PeaCups.OUTSIDE);
        due.same("first(3) NO", broken.first(3), PeaCups.OUTSIDE);
        due.same("first(-1) NO", broken.first(-1), PeaCups.OUTSIDE);
        allRefuse(broken, PeaCups.NO);
        allRefuse(Due.saying("h1"), PeaCups.STATE);
        allRefuse(Due.saying("h1l"), PeaCups.NO);
    }

    private static void allRefuse(PeaCups x, int refusal) {
        int signs = x.told(0);
        for (int what = 0; what < 3; what++) {
            due.same("behind(1, " + what + ")", x.behind(1, what), refusal);
            due.same("first(" + what + ")", x.first(what), refusal);
        }
        due.same("table(5)", x.table(5), refusal);
        due.same("pea(0)", x.pea(0), refusal);
        due.same("pea(1)", x.pea(1), refusal);
        due.same("done()", x.done(), refusal);
        due.same("signs stay", x.told(0), signs);
        due.same("row stays", x.told(1), 12345);
    }

    private static void behindChanges() {
        PeaCups x = new PeaCups();
        x.watcher(0, 4, 20, 0b000101);
        x.watcher(1, 5, 20, 0b000101);
        x.watcher(2, 6, 20, 0b000011);
        x.watcher(3, 9, 20, 0b111100);
        Due.say(x, "s015");
        int[] thinks = {63, 0b000110, 0b000011, 0b111100};
        for (int w = 0; w < 4; w++) {
            due.same("s015 behind(" + w + ", 0)", x.behind(w, 0), thinks[w]);
            due.same("nothing is done", x.told(30 + w), new int[] {5, 5, 3, 60}[w]);
        }
        Due.say(x, "s519");
        int[] later = {63, 63, 63, 0b011110};
        for (int w = 0; w < 4; w++) {
            due.same("s015s519 behind(" + w + ", 0)", x.behind(w, 0), later[w]);
        }
    }

    private static void behindLifts() {
        PeaCups x = new PeaCups();
        x.watcher(0, 5, 20, 0b000100);
        x.watcher(1, 5, 20, 0b000110);
        x.watcher(2, 5, 20, 0b000010);
        Due.say(x, "l2");
        due.same("alone: the five others", x.behind(0, 0), 0b111011);
        due.same("one of two", x.behind(1, 0), 0b000010);
        due.same("not thought of", x.behind(2, 0), 0b000010);
        due.same("of all", x.behind(3, 0), 0b111011);
        Due.say(x, "l0");
        for (int w = 0; w < 4; w++) {
            due.same("it is there", x.behind(w, 0), 1);
        }
        Due.say(x, "h0l0");
        for (int w = 0; w < 4; w++) {
            due.same("the hand has it", x.behind(w, 0), 0b111110);
        }
    }

    private static void behindBets() {
        PeaCups x = new PeaCups();
        x.watcher(0, 5, 995, 63);
        Due.say(x, "A05B03C13");
        due.same("999 at most", x.behind(0, 1), 999);
        due.same("won", x.behind(1, 1), 23);
        due.same("lost", x.behind(2, 1), 17);
        due.same("no bet", x.behind(3, 1), 20);
        due.same("bets won", x.judge(2), 2);
        Due.say(x, "h0B04");
        due.same("lost to the hand", x.behind(1, 1), 19);
        due.same("bets won still", x.judge(2), 2);
        due.same("in fact", x.told(20), 995);
    }

    private static void wrong() {
        PeaCups x = new PeaCups();
        x.watcher(0, 5, 20, 0b111110);
        x.watcher(1, 5, 20, 0b000001);
        due.same("thinks of none where it is", x.behind(0, 2), 1);
        due.same("thinks of it", x.behind(1, 2), 0);
        Due.say(x, "h0");
        for (int w = 0; w < 4; w++) {
            due.same("in the hand", x.behind(w, 2), 1);
        }
        Due.say(x, "h1");
        due.same("A is not", x.behind(0, 2), 0);
        due.same("B is", x.behind(1, 2), 1);
    }

    private static void tableAndPea() {
        PeaCups x = Due.saying("s051s151");
        int[] cups = {5, 0, 2, 3, 4, 1};
        for (int place = 0; place < 6; place++) {
            due.same("table(" + place + ")", x.table(place), cups[place]);
        }
        due.same("pea(0)", x.pea(0), 1);
        due.same("pea(1)", x.pea(1), 0);
        Due.say(x, "h1");
        due.same("pea(0) in the hand", x.pea(0), PeaCups.NONE);
        due.same("pea(1) in the hand", x.pea(1), PeaCups.NONE);
        Due.say(x, "h0");
        due.same("pea(0) of cup 5", x.pea(0), 0);
        due.same("pea(1) of cup 5", x.pea(1), 5);
    }

    private static void firstIs(PeaCups x, int act, int who, int round) {
        due.same("first(0)", x.first(0), act);
        due.same("first(1)", x.first(1), who);
        due.same("first(2)", x.first(2), round);
    }

    private static void first() {
        firstIs(new PeaCups(), PeaCups.NONE, PeaCups.NONE, 0);
        firstIs(Due.saying("l1.h0.h0."), 2, 0, 3);
        PeaCups wrongAtFirst = new PeaCups();
        wrongAtFirst.watcher(0, 5, 20, 2);
        firstIs(Due.say(wrongAtFirst, "."), PeaCups.NONE, PeaCups.NONE, 1);
        firstIs(Due.say(wrongAtFirst, "h0"), 1, 1, 1);
        PeaCups wrongAgain = new PeaCups();
        wrongAgain.watcher(0, 5, 20, 2);
        // A change too quick for all makes nobody wrong; A, wrong at first, thinks of all then.
        firstIs(Due.say(wrongAgain, "s016.h1h0"), 2, 0, 1);
        PeaCups late = new PeaCups();
        late.cups(12345, -1);
        late.watcher(1, 5, 20, 1);
        firstIs(Due.say(late, "h3"), PeaCups.NONE, PeaCups.NONE, 0);
        firstIs(Due.say(late, "l3s349h4"), 3, 0, 0);
    }

    private static void done() {
        PeaCups x = Due.saying("s019.A12B12h1");
        due.same("done()", x.done(), 5);
        int[] asked = {0, 1, 2, 3, 20, 21, 22, 30, 33};
        int[] answers = {0, 102345, PeaCups.NONE, 1, 22, 22, 20, 63, 63};
        for (int i = 0; i < asked.length; i++) {
            due.same("told(" + asked[i] + ")", x.told(asked[i]), answers[i]);
        }
        due.same("done() again", x.done(), 0);
        due.same("fault()", x.fault(), PeaCups.NONE);
        Due.say(x, "l4h5");
        due.same("done() from there", x.done(), 2);
        due.same("told(2)", x.told(2), 5);
        due.same("told(30)", x.told(30), 0b101111);
    }

    private static void lastRound() {
        PeaCups x = Due.saying(".".repeat(60));
        due.same("60 rounds", x.done(), 60);
        Due.say(x, ".".repeat(39));
        due.same("first(2) at 99", x.first(2), 99);
        due.same("judge(0) at 99", x.judge(0), PeaCups.NONE);
        x.say('.');
        due.same("judge(0) beyond", x.judge(0), 39);
        due.same("judge(1) beyond", x.judge(1), 4);
        due.same("done() beyond", x.done(), PeaCups.STATE);
        due.same("told(3)", x.told(3), 60);
    }
}
