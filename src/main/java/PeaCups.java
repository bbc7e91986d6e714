import java.util.Arrays;

/** Six cups, a pea, a hand and four watchers; with orders, weighings, squares, lots and years. */
public final class PeaCups {
    public static final int UNKNOWN = -1, OUTSIDE = -2, STATE = -3, FULL = -4, NO = -5, NONE = -6;
    public static final long GONE = -1000000000000000000L;

    private static final int PLACES = 6, ALL_PLACES = 63, WATCHERS = 4, PAIRS = 15, ALL_PAIRS = 32767;
    private static final int HAND = -1;
    private static final int MOST_EYES = 9, MOST_COIN = 999, LAST_ROUND = 99;
    private static final int FIRST_SIGN = 33, LAST_SIGN = 126;
    private static final int IMAGES = 2;
    private static final int MOST_CHANGES_BY_LOT = 12, STAYS = 10;
    private static final int LAST_SEED = 9999, MOST_YEAR_ACTS = 99;

    private final Pad pad;
    private final Table now;
    private final Telling telling;
    private final Sights sights;
    private final Paths paths;
    private final SquareGame game;
    private final Image[] images;

    public PeaCups() {
        pad = new Pad();
        now = new Table();
        telling = new Telling();
        sights = new Sights();
        paths = new Paths();
        game = new SquareGame();
        images = new Image[IMAGES];
        for (int k = 0; k < IMAGES; k++) {
            images[k] = new Image();
        }
    }

    // ---- 1 cups, watchers

    public int cups(int row, int pea) {
        if (pea != HAND && !isPlace(pea)) {
            return UNKNOWN;
        }
        int order = Orders.ofRow(row);
        if (order == NONE) {
            return OUTSIDE;
        }
        int before = Orders.toRow(now.order);
        now.order = order;
        now.peaCup = pea;
        return before;
    }

    public int watcher(int watcher, int eyes, int coin, int thinks) {
        if (!isWatcher(watcher)) {
            return UNKNOWN;
        }
        if (!isWithin(eyes, 1, MOST_EYES) || !isWithin(coin, 0, MOST_COIN) || !isWithin(thinks, 1, ALL_PLACES)) {
            return OUTSIDE;
        }
        int before = now.coinOf(watcher);
        now.setWatcher(watcher, eyes, coin, thinks);
        return before;
    }

    public int say(int sign) {
        if (!isWithin(sign, FIRST_SIGN, LAST_SIGN)) {
            return OUTSIDE;
        }
        return pad.append(sign) ? pad.count : FULL;
    }

    public int wipe() {
        int before = pad.count;
        pad.count = 0;
        return before;
    }

    public int fault() {
        return pad.faultPlace();
    }

    // ---- 2 rounds

    public int judge(int what) {
        if (!isWithin(what, 0, 2)) {
            return OUTSIDE;
        }
        int refusal = followPad();
        boolean isRefused = refusal == NO || (what == 2 && refusal == STATE);
        return isRefused ? refusal : telling.ofText(what);
    }

    public int behind(int watcher, int what) {
        if (!isWatcher(watcher)) {
            return UNKNOWN;
        }
        if (!isWithin(what, 0, 2)) {
            return OUTSIDE;
        }
        int refusal = followPad();
        return refusal != 0 ? refusal : telling.ofWatcher(watcher, what);
    }

    public int table(int place) {
        if (!isPlace(place)) {
            return UNKNOWN;
        }
        int refusal = followPad();
        return refusal != 0 ? refusal : Orders.cupOn(telling.table.order, place);
    }

    public int pea(int what) {
        if (!isWithin(what, 0, 1)) {
            return OUTSIDE;
        }
        int refusal = followPad();
        return refusal != 0 ? refusal : telling.ofPea(what);
    }

    public int first(int what) {
        if (!isWithin(what, 0, 2)) {
            return OUTSIDE;
        }
        int refusal = followPad();
        return refusal != 0 ? refusal : telling.ofFirstWrong(what);
    }

    public int done() {
        int refusal = followPad();
        if (refusal != 0) {
            return refusal;
        }
        now.copyFrom(telling.table);
        pad.count = 0;
        return telling.acts;
    }

    /** Follows the text from how it is now; answers NO, STATE, or 0 if all acts can be. */
    private int followPad() {
        if (pad.faultPlace() != NONE) {
            return NO;
        }
        telling.followText(now, pad);
        return telling.stopped == NONE ? 0 : STATE;
    }

    // ---- 3 changes, pairs, ranks

    public int changes(int row, int what) {
        int order = Orders.ofRow(row);
        if (order == NONE || !isWithin(what, 0, 1)) {
            return OUTSIDE;
        }
        int moves = Orders.movesBetween(now.order, order);
        return what == 0 ? PLACES - Orders.cyclesOf(moves) : Orders.inversionsOf(moves);
    }

    public int by(int row, int pairs, int what) {
        int order = Orders.ofRow(row);
        if (order == NONE || !isWithin(pairs, 0, ALL_PAIRS) || !isWithin(what, 0, 1)) {
            return OUTSIDE;
        }
        paths.measure(now.order, order, pairs);
        return what == 0 ? paths.stepsFrom(now.order) : paths.pairFrom(now.order, pairs);
    }

    public int rank(int row) {
        int order = Orders.ofRow(row);
        return order == NONE ? OUTSIDE : Orders.rankOf(order);
    }

    public int row(int rank) {
        return isWithin(rank, 0, Orders.COUNT - 1) ? Orders.toRow(Orders.ofRank(rank)) : OUTSIDE;
    }

    // ---- 4 lumps, squares, lots

    public int weigh(int one, int other, int what) {
        if (!Sights.isWeighing(one, other) || !isWithin(what, 0, 2)) {
            return OUTSIDE;
        }
        return sights.append(one, other, what) ? sights.count : FULL;
    }

    public int forget() {
        int before = sights.count;
        sights.count = 0;
        return before;
    }

    public int cases(int i) {
        return i == -1 ? sights.fittingCases() : sights.fittingCase(i);
    }

    public int leaves(int one, int other) {
        return Sights.isWeighing(one, other) ? sights.mostLeft(one, other) : OUTSIDE;
    }

    public int squares(int n, int what) {
        if (!isWithin(n, 0, SquareGame.MOST) || !isWithin(what, 0, 1)) {
            return OUTSIDE;
        }
        int taken = game.leastWinningTake(n);
        if (what == 1) {
            return taken;
        }
        return taken == NONE ? 0 : 1;
    }

    public long lot(int m, int p, int what, int part) {
        if (!isWithin(m, 0, MOST_CHANGES_BY_LOT) || !isPlace(p) || !isWithin(what, 0, 1) || !isWithin(part, 0, 1)) {
            return GONE + OUTSIDE;
        }
        long lower = power(PAIRS, m);
        long upper = what == 0 ? waysTo(p, m) : power(STAYS, m);
        long common = commonDivisor(upper, lower);
        long asked = part == 0 ? upper : lower;
        return common > 0 ? asked / common : asked;
    }

    public int year(int seed, int m, int what) {
        if (!isWithin(seed, 0, LAST_SEED) || !isWithin(m, 1, MOST_YEAR_ACTS) || !isWithin(what, 0, 2)) {
            return OUTSIDE;
        }
        telling.followDraws(now, seed, m);
        return telling.ofYear(what);
    }

    public int image(int k) {
        if (!isWithin(k, 0, IMAGES - 1)) {
            return OUTSIDE;
        }
        images[k].keep(now, sights);
        return 1;
    }

    public int restore(int k) {
        if (!isWithin(k, 0, IMAGES - 1)) {
            return OUTSIDE;
        }
        if (!images[k].kept) {
            return STATE;
        }
        images[k].bringBack(now, sights);
        return 1;
    }

    public int told(int what) {
        switch (what) {
            case 0:
                return pad.count;
            case 1:
                return Orders.toRow(now.order);
            case 2:
                return now.peaCupOrNone();
            case 3:
                return now.round;
            case 4:
                return sights.count;
            default:
                return toldOfWatcher(what);
        }
    }

    private int toldOfWatcher(int what) {
        int watcher = what % 10;
        if (what < 10 || !isWatcher(watcher)) {
            return OUTSIDE;
        }
        switch (what / 10) {
            case 1:
                return now.eyesOf(watcher);
            case 2:
                return now.coinOf(watcher);
            case 3:
                return now.thinksOf(watcher);
            default:
                return OUTSIDE;
        }
    }

    // ---- small helps

    private static boolean isWithin(int number, int least, int most) {
        return number >= least && number <= most;
    }

    private static boolean isPlace(int place) {
        return place >= 0 && place < PLACES;
    }

    private static boolean isWatcher(int watcher) {
        return watcher >= 0 && watcher < WATCHERS;
    }

    private static long power(long base, int times) {
        long result = 1;
        for (int i = 0; i < times; i++) {
            result *= base;
        }
        return result;
    }

    /** Of the 15 to the m ways, those that bring what was on place 0 to a place. */
    private static long waysTo(int place, int m) {
        long home = 1;
        long away = 0;
        for (int i = 0; i < m; i++) {
            long homeThen = STAYS * home + (PLACES - 1) * away;
            away = home + (STAYS + PLACES - 2) * away;
            home = homeThen;
        }
        return place == 0 ? home : away;
    }

    private static long commonDivisor(long one, long other) {
        // Each two turns halve the larger number, so that a long needs fewer than 128.
        for (int turn = 0; turn < 200 && other != 0; turn++) {
            long rest = one % other;
            one = other;
            other = rest;
        }
        return one;
    }

    /** Which cup is on each place, as one number: three bits a place, that of place 0 lowest. */
    private static final class Orders {
        static final int COUNT = 720;
        static final int OWN_PLACES = 5 << 15 | 4 << 12 | 3 << 9 | 2 << 6 | 1 << 3;
        private static final int HIGHEST_ROW = 543210;

        static int cupOn(int order, int place) {
            return order >> 3 * place & 7;
        }

        static int placeOf(int order, int cup) {
            for (int place = 0; place < PLACES; place++) {
                if ((order >> 3 * place & 7) == cup) {
                    return place;
                }
            }
            return NONE;
        }

        static int changed(int order, int one, int other) {
            int difference = (order >> 3 * one ^ order >> 3 * other) & 7;
            return order ^ difference << 3 * one ^ difference << 3 * other;
        }

        /** The order that a row tells; NONE: it is no row. */
        static int ofRow(int row) {
            if (!isWithin(row, 0, HIGHEST_ROW)) {
                return NONE;
            }
            int order = 0;
            int seen = 0;
            int rest = row;
            for (int place = PLACES - 1; place >= 0; place--) {
                int cup = rest % 10;
                rest /= 10;
                order |= (cup & 7) << 3 * place;
                seen |= 1 << cup;
            }
            return seen == ALL_PLACES ? order : NONE;
        }

        static int toRow(int order) {
            int row = 0;
            for (int place = 0; place < PLACES; place++) {
                row = 10 * row + cupOn(order, place);
            }
            return row;
        }

        static int rankOf(int order) {
            int rank = 0;
            int left = ALL_PLACES;
            for (int place = 0; place < PLACES; place++) {
                int bit = 1 << cupOn(order, place);
                rank = rank * (PLACES - place) + Integer.bitCount(left & bit - 1);
                left &= ~bit;
            }
            return rank;
        }

        static int ofRank(int rank) {
            int order = 0;
            int left = ALL_PLACES;
            int lesser = lesserCupsLeft(rank);
            for (int place = 0; place < PLACES; place++) {
                int cup = nthCup(left, cupOn(lesser, place));
                order |= cup << 3 * place;
                left &= ~(1 << cup);
            }
            return order;
        }

        /** For each place, three bits each, how many of the cups that are left there are less than its own. */
        private static int lesserCupsLeft(int rank) {
            int lesser = 0;
            int rest = rank;
            for (int place = PLACES - 1; place >= 0; place--) {
                int cupsLeft = PLACES - place;
                lesser |= rest % cupsLeft << 3 * place;
                rest /= cupsLeft;
            }
            return lesser;
        }

        private static int nthCup(int set, int n) {
            int ahead = n;
            for (int cup = 0; cup < PLACES; cup++) {
                if ((set >> cup & 1) == 1) {
                    if (ahead == 0) {
                        return cup;
                    }
                    ahead--;
                }
            }
            return 0;
        }

        /** For each place of an order to be, the place where its cup is as yet. */
        static int movesBetween(int from, int to) {
            int moves = 0;
            for (int place = 0; place < PLACES; place++) {
                moves |= placeOf(from, cupOn(to, place)) << 3 * place;
            }
            return moves;
        }

        static int cyclesOf(int order) {
            int cycles = 0;
            int seen = 0;
            for (int start = 0; start < PLACES; start++) {
                if ((seen >> start & 1) == 0) {
                    cycles++;
                }
                int place = start;
                for (int i = 0; i < PLACES; i++) {
                    seen |= 1 << place;
                    place = cupOn(order, place);
                }
            }
            return cycles;
        }

        static int inversionsOf(int order) {
            int inversions = 0;
            for (int one = 0; one < PLACES; one++) {
                for (int other = one + 1; other < PLACES; other++) {
                    if (cupOn(order, one) > cupOn(order, other)) {
                        inversions++;
                    }
                }
            }
            return inversions;
        }
    }

    /** The fewest changes by some pairs alone, measured from the order to be. */
    private static final class Paths {
        private static final int[] ONE = {0, 0, 0, 0, 0, 1, 1, 1, 1, 2, 2, 2, 3, 3, 4};
        private static final int[] OTHER = {1, 2, 3, 4, 5, 2, 3, 4, 5, 3, 4, 5, 4, 5, 5};

        private final int[] steps = new int[Orders.COUNT];
        private final int[] queue = new int[Orders.COUNT];
        private int queued;

        /** Goes on only until the order now is reached: all orders nearer than it are known then. */
        void measure(int from, int to, int pairs) {
            Arrays.fill(steps, NONE);
            queued = 0;
            reach(to, 0);
            for (int i = 0; i < Orders.COUNT && i < queued && stepsFrom(from) == NONE; i++) {
                reachBeside(queue[i], pairs);
            }
        }

        private void reachBeside(int order, int pairs) {
            int farther = stepsFrom(order) + 1;
            for (int pair = 0; pair < PAIRS; pair++) {
                if ((pairs >> pair & 1) == 1) {
                    reach(Orders.changed(order, ONE[pair], OTHER[pair]), farther);
                }
            }
        }

        private void reach(int order, int far) {
            int rank = Orders.rankOf(order);
            if (isWithin(rank, 0, Orders.COUNT - 1) && steps[rank] == NONE && queued < Orders.COUNT) {
                steps[rank] = far;
                queue[queued] = order;
                queued++;
            }
        }

        int stepsFrom(int order) {
            int rank = Orders.rankOf(order);
            return isWithin(rank, 0, Orders.COUNT - 1) ? steps[rank] : NONE;
        }

        /** The least pair that brings an order a step nearer. */
        int pairFrom(int order, int pairs) {
            int far = stepsFrom(order);
            if (far < 1) {
                return NONE;
            }
            for (int pair = 0; pair < PAIRS; pair++) {
                if ((pairs >> pair & 1) == 1
                        && stepsFrom(Orders.changed(order, ONE[pair], OTHER[pair])) == far - 1) {
                    return pair;
                }
            }
            return NONE;
        }
    }

    /** One act, read from the pad or drawn; used again for the next. */
    private static final class Act {
        static final int CHANGE = 0, LIFT = 1, HAND_AT = 2, BET = 3, NEW_ROUND = 4;

        int kind;
        int place;
        int otherPlace;
        int watcher;
        /** How quick a change is, how much a bet. */
        int number;

        void setChange(int one, int other, int quick) {
            kind = CHANGE;
            place = one;
            otherPlace = other;
            number = quick;
        }

        void setAt(int newKind, int where) {
            kind = newKind;
            place = where;
        }

        void setBet(int who, int where, int coin) {
            kind = BET;
            watcher = who;
            place = where;
            number = coin;
        }

        void setDrawn(int draw) {
            int y = draw / 8;
            switch (draw % 8) {
                case 4:
                    setAt(LIFT, y % PLACES);
                    break;
                case 5:
                    setAt(HAND_AT, y % PLACES);
                    break;
                case 6:
                    setBet(y % WATCHERS, y / WATCHERS % PLACES, 1);
                    break;
                case 7:
                    setAt(NEW_ROUND, 0);
                    break;
                default:
                    setChange(y % PLACES, y / PLACES % PLACES, 1 + y / (PLACES * PLACES) % 9);
                    break;
            }
        }
    }

    /** The text of the rounds, as far as it is told. */
    private static final class Pad {
        static final int MOST = 60;

        private final int[] signs = new int[MOST];
        int count;

        boolean append(int sign) {
            if (count >= MOST) {
                return false;
            }
            signs[count] = sign;
            count++;
            return true;
        }

        int faultPlace() {
            int head = 0;
            int offset = 0;
            for (int at = 0; at < count && at < MOST; at++) {
                int sign = signs[at];
                if (offset == 0) {
                    head = sign;
                }
                int length = lengthOf(head);
                if (length == 0 || (offset > 0 && !isFitting(sign, offset, length))) {
                    return at;
                }
                offset = offset + 1 == length ? 0 : offset + 1;
            }
            return offset == 0 ? NONE : count;
        }

        /** How many signs an act has that begins so; 0: none does. */
        private static int lengthOf(int head) {
            switch (head) {
                case 's':
                    return 4;
                case 'l':
                case 'h':
                    return 2;
                case '.':
                    return 1;
                default:
                    return isLetter(head) ? 3 : 0;
            }
        }

        private static boolean isLetter(int sign) {
            return sign >= 'A' && sign < 'A' + WATCHERS;
        }

        private static boolean isFitting(int sign, int offset, int length) {
            boolean isNumber = length > 2 && offset == length - 1;
            return isNumber ? isWithin(sign, '1', '9') : isWithin(sign, '0', '5');
        }

        /** Reads the act at a place of a text without fault: how many signs it has. */
        int readAct(int at, Act act) {
            int head = signAt(at);
            switch (head) {
                case 's':
                    act.setChange(digitAt(at + 1), digitAt(at + 2), digitAt(at + 3));
                    break;
                case 'l':
                    act.setAt(Act.LIFT, digitAt(at + 1));
                    break;
                case 'h':
                    act.setAt(Act.HAND_AT, digitAt(at + 1));
                    break;
                case '.':
                    act.setAt(Act.NEW_ROUND, 0);
                    break;
                default:
                    act.setBet(head - 'A', digitAt(at + 1), digitAt(at + 2));
                    break;
            }
            return lengthOf(head);
        }

        private int signAt(int at) {
            return at >= 0 && at < MOST ? signs[at] : 0;
        }

        private int digitAt(int at) {
            return signAt(at) - '0';
        }
    }

    /** Cups, pea, watchers and round at one time. */
    private static final class Table {
        private static final int FIRST_EYES = 5, FIRST_COIN = 20;

        int order = Orders.OWN_PLACES;
        int peaCup = 0;
        int round = 0;
        private final int[] eyes = {FIRST_EYES, FIRST_EYES, FIRST_EYES, FIRST_EYES};
        private final int[] coins = {FIRST_COIN, FIRST_COIN, FIRST_COIN, FIRST_COIN};
        private final int[] thoughts = {ALL_PLACES, ALL_PLACES, ALL_PLACES, ALL_PLACES};

        void copyFrom(Table other) {
            order = other.order;
            peaCup = other.peaCup;
            round = other.round;
            for (int watcher = 0; watcher < WATCHERS; watcher++) {
                eyes[watcher] = other.eyes[watcher];
                coins[watcher] = other.coins[watcher];
                thoughts[watcher] = other.thoughts[watcher];
            }
        }

        void setWatcher(int watcher, int newEyes, int coin, int thinks) {
            if (isWatcher(watcher)) {
                eyes[watcher] = newEyes;
                coins[watcher] = coin;
                thoughts[watcher] = thinks;
            }
        }

        int eyesOf(int watcher) {
            return isWatcher(watcher) ? eyes[watcher] : 0;
        }

        int coinOf(int watcher) {
            return isWatcher(watcher) ? coins[watcher] : 0;
        }

        int thinksOf(int watcher) {
            return isWatcher(watcher) ? thoughts[watcher] : 0;
        }

        int peaPlace() {
            return peaCup == HAND ? NONE : Orders.placeOf(order, peaCup);
        }

        int peaCupOrNone() {
            return peaCup == HAND ? NONE : peaCup;
        }

        int wrongWatchers() {
            int where = peaPlace();
            int wrong = 0;
            for (int watcher = 0; watcher < WATCHERS; watcher++) {
                if (where == NONE || (thoughts[watcher] >> where & 1) == 0) {
                    wrong |= 1 << watcher;
                }
            }
            return wrong;
        }

        /** Why an act can not be; 0: it can. */
        int whyNot(Act act) {
            switch (act.kind) {
                case Act.CHANGE:
                    return act.place == act.otherPlace ? 1 : 0;
                case Act.HAND_AT:
                    return peaCup != HAND && peaPlace() != act.place ? 2 : 0;
                case Act.BET:
                    return coinOf(act.watcher) < act.number ? 3 : 0;
                case Act.NEW_ROUND:
                    return round >= LAST_ROUND ? 4 : 0;
                default:
                    return 0;
            }
        }

        boolean isWon(Act act) {
            return act.kind == Act.BET && peaPlace() == act.place;
        }

        void perform(Act act) {
            switch (act.kind) {
                case Act.CHANGE:
                    change(act.place, act.otherPlace, act.number);
                    break;
                case Act.LIFT:
                    lift(act.place);
                    break;
                case Act.HAND_AT:
                    peaCup = peaCup == HAND ? Orders.cupOn(order, act.place) : HAND;
                    break;
                case Act.BET:
                    pay(act.watcher, isWon(act) ? act.number : -act.number);
                    break;
                default:
                    round++;
                    break;
            }
        }

        private void change(int one, int other, int quick) {
            order = Orders.changed(order, one, other);
            for (int watcher = 0; watcher < WATCHERS; watcher++) {
                thoughts[watcher] = eyes[watcher] >= quick
                        ? withBitsChanged(thoughts[watcher], one, other) : ALL_PLACES;
            }
        }

        private static int withBitsChanged(int set, int one, int other) {
            int difference = (set >> one ^ set >> other) & 1;
            return set ^ difference << one ^ difference << other;
        }

        private void lift(int place) {
            int bit = 1 << place;
            boolean isThere = peaPlace() == place;
            for (int watcher = 0; watcher < WATCHERS; watcher++) {
                int others = thoughts[watcher] & ~bit;
                if (isThere) {
                    thoughts[watcher] = bit;
                } else {
                    thoughts[watcher] = others != 0 ? others : ALL_PLACES & ~bit;
                }
            }
        }

        private void pay(int watcher, int coin) {
            if (isWatcher(watcher)) {
                coins[watcher] = Math.min(MOST_COIN, coins[watcher] + coin);
            }
        }
    }

    /** What comes of acts one behind another, on a table of its own. */
    private static final class Telling {
        private static final int FACTOR = 75, SUMMAND = 74, DIVISOR = 65537;

        final Table table = new Table();
        private final Act act = new Act();
        int acts;
        int stopped;
        private int why;
        private int won;
        private int wrongAct;
        private int wrongWatcher;

        void followText(Table from, Pad pad) {
            begin(from);
            int at = 0;
            for (int i = 0; i < Pad.MOST && at < pad.count && stopped == NONE; i++) {
                at += pad.readAct(at, act);
                step();
            }
        }

        void followDraws(Table from, int seed, int m) {
            begin(from);
            int draw = seed;
            for (int i = 0; i < m; i++) {
                draw = (FACTOR * draw + SUMMAND) % DIVISOR;
                act.setDrawn(draw);
                if (table.whyNot(act) == 0) {
                    table.perform(act);
                }
            }
        }

        private void begin(Table from) {
            table.copyFrom(from);
            acts = 0;
            stopped = NONE;
            why = NONE;
            won = 0;
            wrongAct = NONE;
            wrongWatcher = NONE;
        }

        private void step() {
            int reason = table.whyNot(act);
            if (reason != 0) {
                stopped = acts;
                why = reason;
                return;
            }
            if (table.isWon(act)) {
                won++;
            }
            int wrongAhead = table.wrongWatchers();
            table.perform(act);
            noteWrong(table.wrongWatchers() & ~wrongAhead);
            acts++;
        }

        private void noteWrong(int newlyWrong) {
            for (int watcher = 0; watcher < WATCHERS && wrongAct == NONE; watcher++) {
                if ((newlyWrong >> watcher & 1) == 1) {
                    wrongAct = acts;
                    wrongWatcher = watcher;
                }
            }
        }

        int ofText(int what) {
            switch (what) {
                case 0:
                    return stopped;
                case 1:
                    return why;
                default:
                    return won;
            }
        }

        int ofWatcher(int watcher, int what) {
            switch (what) {
                case 0:
                    return table.thinksOf(watcher);
                case 1:
                    return table.coinOf(watcher);
                default:
                    return table.wrongWatchers() >> watcher & 1;
            }
        }

        int ofPea(int what) {
            return what == 0 ? table.peaPlace() : table.peaCupOrNone();
        }

        /** The round is the one behind the whole text, whether somebody was wrong or not. */
        int ofFirstWrong(int what) {
            switch (what) {
                case 0:
                    return wrongAct;
                case 1:
                    return wrongWatcher;
                default:
                    return table.round;
            }
        }

        int ofYear(int what) {
            switch (what) {
                case 0:
                    return table.peaPlace();
                case 1:
                    return Integer.bitCount(table.wrongWatchers());
                default:
                    return table.coinOf(0);
            }
        }
    }

    /** What was seen of weighings, and the cases that it leaves. */
    private static final class Sights {
        private static final int MOST = 8, LUMPS = 12, ALL_LUMPS = 4095, LAST_CASE = 24;

        private final int[] ones = new int[MOST];
        private final int[] others = new int[MOST];
        private final int[] heavier = new int[MOST];
        int count;

        static boolean isWeighing(int one, int other) {
            return isWithin(one, 1, ALL_LUMPS) && isWithin(other, 1, ALL_LUMPS)
                    && (one & other) == 0 && Integer.bitCount(one) == Integer.bitCount(other);
        }

        boolean append(int one, int other, int what) {
            if (count >= MOST) {
                return false;
            }
            ones[count] = one;
            others[count] = other;
            heavier[count] = what;
            count++;
            return true;
        }

        void copyFrom(Sights from) {
            count = from.count;
            for (int i = 0; i < MOST; i++) {
                ones[i] = from.ones[i];
                others[i] = from.others[i];
                heavier[i] = from.heavier[i];
            }
        }

        /** Which of two sets is heavier in a case: 1, 2, or 0. */
        private static int heavierIn(int number, int one, int other) {
            if (number == 0) {
                return 0;
            }
            int lump = (number - 1) % LUMPS;
            boolean isHeavy = number <= LUMPS;
            if ((one >> lump & 1) == 1) {
                return isHeavy ? 1 : 2;
            }
            if ((other >> lump & 1) == 1) {
                return isHeavy ? 2 : 1;
            }
            return 0;
        }

        private boolean isFitting(int number) {
            for (int i = 0; i < count && i < MOST; i++) {
                if (heavierIn(number, ones[i], others[i]) != heavier[i]) {
                    return false;
                }
            }
            return true;
        }

        int fittingCases() {
            int fitting = 0;
            for (int number = 0; number <= LAST_CASE; number++) {
                if (isFitting(number)) {
                    fitting++;
                }
            }
            return fitting;
        }

        int fittingCase(int i) {
            int fitting = 0;
            for (int number = 0; number <= LAST_CASE; number++) {
                if (isFitting(number)) {
                    if (fitting == i) {
                        return number;
                    }
                    fitting++;
                }
            }
            return NONE;
        }

        int mostLeft(int one, int other) {
            int neither = 0;
            int first = 0;
            int second = 0;
            for (int number = 0; number <= LAST_CASE; number++) {
                if (isFitting(number)) {
                    int side = heavierIn(number, one, other);
                    neither += side == 0 ? 1 : 0;
                    first += side == 1 ? 1 : 0;
                    second += side == 2 ? 1 : 0;
                }
            }
            return Math.max(neither, Math.max(first, second));
        }
    }

    /** The heaps from which who begins can win, as bits: found once, when first asked for. */
    private static final class SquareGame {
        static final int MOST = 999;
        private static final int LARGEST_ROOT = 31, WORDS = 16;

        private final long[] won = new long[WORDS];
        private boolean isFound;

        int leastWinningTake(int n) {
            findAll();
            for (int root = 1; root <= LARGEST_ROOT && root * root <= n; root++) {
                if (!isWonFrom(n - root * root)) {
                    return root * root;
                }
            }
            return NONE;
        }

        private void findAll() {
            if (isFound) {
                return;
            }
            isFound = true;
            for (int n = 0; n <= MOST; n++) {
                if (!isWonFrom(n)) {
                    markAllAbove(n);
                }
            }
        }

        /** Who can leave a lost heap to the other can win. */
        private void markAllAbove(int lost) {
            for (int root = 1; root <= LARGEST_ROOT; root++) {
                int n = lost + root * root;
                if (isWithin(n, 0, MOST)) {
                    won[n >> 6] |= 1L << (n & 63);
                }
            }
        }

        private boolean isWonFrom(int n) {
            return isWithin(n, 0, MOST) && (won[n >> 6] >> (n & 63) & 1) == 1;
        }
    }

    /** All but the pad, as it was when it was kept. */
    private static final class Image {
        private final Table table = new Table();
        private final Sights sights = new Sights();
        boolean kept;

        void keep(Table now, Sights seen) {
            table.copyFrom(now);
            sights.copyFrom(seen);
            kept = true;
        }

        void bringBack(Table now, Sights seen) {
            now.copyFrom(table);
            seen.copyFrom(sights);
        }
    }
}
