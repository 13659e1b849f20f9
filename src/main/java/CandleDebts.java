/**
 * Debts by candle length: a street of twelve windows with a candle in each, nights told as small
 * texts, and what can be asked of the street as it stands. The words in capitals are those of the
 * document; README.md tells how to use the class.
 */
public final class CandleDebts {
    public static final int NONE = -6, UNKNOWN = -1, OUTSIDE = -2, STATE = -3, FULL = -4, NO = -5;
    public static final long LOST = -1000000000000000000L;

    private static final int CANDLES = 12;
    private static final int ONES = 6;
    private static final int MOST_WAX = 999;
    private static final int MOST_SUM = 999;
    private static final int MOST_DRAUGHT = 9;
    private static final int MOST_TRIMMED = 9;
    private static final int MOST_PURSE = 9999;
    private static final int MOST_MATCHES = 99;
    private static final int LAST_MINUTE = 999;
    private static final int MOST_SIGNS = 60;
    private static final int MOST_SIGHTS = 8;
    private static final int NET_BASE = 100000;

    private static final int HOUR = 60;
    private static final int REACHES = 4;
    private static final int SPANS = CANDLES * REACHES;

    private static final int SHIP_WAX = 200;
    private static final int YEAR_RING = 65537;

    /** More minutes than any walk takes and than any CANDLE lasts. */
    private static final int FAR = 1000000;

    private static final int BY_MATCH = '*', SNUFFED = '-', ASKED = '!', TRIMMED_MORE = '^',
            LIT_FROM = '>', DRAUGHT_IS = 'w', MINUTE = '.';

    private static final int[] DRAWN_KINDS = {
        BY_MATCH, SNUFFED, ASKED, TRIMMED_MORE, LIT_FROM, DRAUGHT_IS, MINUTE, MINUTE
    };

    /**
     * What a row of so many LIT candles is worth in the game of snuffing, as a heap of Nim: the
     * least number that no move from it is worth. Rows do not touch, so their worths are joined by
     * exclusive or, and who begins loses just where that is 0.
     */
    private static final int[] ROW_WORTH = {0, 1, 1, 2, 0, 3, 1, 1, 0, 3, 3, 2, 2};

    private final Town town;
    private final Town firstImage;
    private final Town secondImage;
    private final boolean[] kept;
    private final Pad pad;
    private final Play play;
    private final Walk walk;
    private final Sneezing sneezing;

    public CandleDebts() {
        town = new Town();
        firstImage = new Town();
        secondImage = new Town();
        kept = new boolean[2];
        pad = new Pad();
        play = new Play();
        walk = new Walk();
        sneezing = new Sneezing();
    }

    // ---- 1 candles, purses, nights

    public int candle(int candle, int wax, int creditor, int debtor, int sum) {
        if (!isCandle(candle) || !isOne(creditor) || !isOne(debtor)) {
            return UNKNOWN;
        }
        if (!within(wax, 0, MOST_WAX) || !within(sum, 0, MOST_SUM)) {
            return OUTSIDE;
        }
        int had = town.wax[candle];
        town.place(candle, wax, creditor, debtor, sum);
        return had;
    }

    public int draught(int candle, int v) {
        if (!isCandle(candle)) {
            return UNKNOWN;
        }
        if (!within(v, 0, MOST_DRAUGHT)) {
            return OUTSIDE;
        }
        int was = town.draughts[candle];
        town.draughts[candle] = v;
        return was;
    }

    public int purse(int one, int v) {
        if (!isOne(one)) {
            return UNKNOWN;
        }
        if (!within(v, 0, MOST_PURSE)) {
            return OUTSIDE;
        }
        int was = town.purses[one];
        town.purses[one] = v;
        return was;
    }

    public int matches(int v) {
        if (!within(v, 0, MOST_MATCHES)) {
            return OUTSIDE;
        }
        int were = town.matchesLeft;
        town.matchesLeft = v;
        return were;
    }

    public int say(int sign) {
        if (!within(sign, 33, 126)) {
            return OUTSIDE;
        }
        return pad.write(sign) ? pad.count : FULL;
    }

    public int wipe() {
        int were = pad.count;
        pad.count = 0;
        return were;
    }

    public int fault() {
        return pad.firstFault();
    }

    // ---- 2 nights

    public int judge(int what) {
        if (!within(what, 0, 1)) {
            return OUTSIDE;
        }
        if (pad.firstFault() != NONE) {
            return NO;
        }
        if (play.night(town, pad)) {
            return NONE;
        }
        return what == 0 ? play.acts : play.why;
    }

    public int done() {
        if (!nightCanBe()) {
            return NO;
        }
        town.copyFrom(play.scene);
        pad.count = 0;
        return play.acts;
    }

    public int behind(int candle, int what) {
        if (!isCandle(candle)) {
            return UNKNOWN;
        }
        if (!within(what, 0, 3)) {
            return OUTSIDE;
        }
        if (!nightCanBe()) {
            return NO;
        }
        switch (what) {
            case 0:
                return play.scene.wax[candle];
            case 1:
                return play.scene.isLit(candle) ? 1 : 0;
            case 2:
                return play.scene.sums[candle];
            default:
                return play.scene.trimmed[candle];
        }
    }

    public int has(int one) {
        if (!isOne(one)) {
            return UNKNOWN;
        }
        return nightCanBe() ? play.scene.purses[one] : NO;
    }

    public int then(int what) {
        if (!within(what, 0, 5)) {
            return OUTSIDE;
        }
        if (!nightCanBe()) {
            return NO;
        }
        switch (what) {
            case 0:
                return play.scene.lit;
            case 1:
                return play.scene.matchesLeft;
            case 2:
                return play.scene.minute;
            case 3:
                return play.paid;
            case 4:
                return play.outAct;
            default:
                return play.outCandle;
        }
    }

    public int lasts(int candle) {
        return isCandle(candle) ? town.minutesLeft(candle) : UNKNOWN;
    }

    public int joined(int candle) {
        return isCandle(candle) ? town.groups[candle] & ~bit(candle) : UNKNOWN;
    }

    public int may(int one) {
        if (!isOne(one)) {
            return UNKNOWN;
        }
        int set = 0;
        for (int c = 0; c < CANDLES; c++) {
            if (town.canBeAsked(c) && town.creditors[c] == one) {
                set |= bit(c);
            }
        }
        return set;
    }

    public int net(int one) {
        if (!isOne(one)) {
            return UNKNOWN;
        }
        int sum = NET_BASE;
        for (int c = 0; c < CANDLES; c++) {
            if (town.isLit(c) && town.creditors[c] == one) {
                sum += town.sums[c];
            }
            if (town.isLit(c) && town.debtors[c] == one) {
                sum -= town.sums[c];
            }
        }
        return sum;
    }

    // ---- 3 rounds, accounts, jubilees

    public int round(int from, int what) {
        if (!isCandle(from)) {
            return UNKNOWN;
        }
        if (!within(what, 0, 1)) {
            return OUTSIDE;
        }
        if (!walk.isNeeded(town, from)) {
            return what == 0 ? 0 : NONE;
        }
        int byWest = walk.fewestMinutes(from, -1);
        int byEast = walk.fewestMinutes(from, 1);
        int fewest = Math.min(byWest, byEast);
        if (fewest >= FAR) {
            return NONE;
        }
        if (what == 0) {
            return fewest;
        }
        return byWest == fewest ? 0 : 1;
    }

    public int accounts(int d, int what) {
        if (!within(d, 1, 99) || !within(what, 0, 1)) {
            return OUTSIDE;
        }
        int read = readableSet(d);
        return what == 0 ? Integer.bitCount(read) : read;
    }

    public int jubilee(int set) {
        if (!within(set, 0, bit(CANDLES) - 1)) {
            return OUTSIDE;
        }
        for (int c = 0; c < CANDLES; c++) {
            if (holds(set, c) && town.wax[c] == 0) {
                return NONE;
            }
        }
        return matchesFor(set);
    }

    public int trims(int candle, int n) {
        if (!isCandle(candle)) {
            return UNKNOWN;
        }
        if (!within(n, 1, 999)) {
            return OUTSIDE;
        }
        int already = town.trimmed[candle];
        for (int more = 0; already + more <= MOST_TRIMMED; more++) {
            if (town.minutesLeftTrimmed(candle, already + more) >= n) {
                return more;
            }
        }
        return NONE;
    }

    // ---- 4 sneezes, snuffing, moths, the ship

    public int seen(int candle, int lost) {
        if (!isCandle(candle)) {
            return UNKNOWN;
        }
        if (!within(lost, 0, MOST_WAX)) {
            return OUTSIDE;
        }
        return town.addSight(candle, lost) ? town.sights : FULL;
    }

    public int forget() {
        int were = town.sights;
        town.sights = 0;
        return were;
    }

    public int sneezes(int i) {
        sneezing.fit(town);
        return i == -1 ? sneezing.howMany() : sneezing.at(i);
    }

    public int look(int what) {
        if (!within(what, 0, 1)) {
            return OUTSIDE;
        }
        sneezing.fit(town);
        if (sneezing.howMany() == 0) {
            return NONE;
        }
        int best = 0;
        int fewest = sneezing.mostLeft(town, 0);
        for (int c = 1; c < CANDLES; c++) {
            int left = sneezing.mostLeft(town, c);
            if (left < fewest) {
                best = c;
                fewest = left;
            }
        }
        return what == 0 ? best : fewest;
    }

    public int snuff(int what) {
        if (!within(what, 0, 1)) {
            return OUTSIDE;
        }
        int first = winningSnuff(town.lit);
        if (what == 1) {
            return first;
        }
        return first == NONE ? 0 : 1;
    }

    public long moths(int candle, int t, int n, int part) {
        if (candle != -1 && (!isCandle(candle) || !town.isLit(candle))) {
            return LOST + UNKNOWN;
        }
        if (!within(t, 0, 10) || !within(n, 0, 15) || !within(part, 0, 1)) {
            return LOST + OUTSIDE;
        }
        long upper = candle == -1 ? town.howManyOutlast(n) : town.outlasts(candle, n) ? 1 : 0;
        long lower = 1;
        for (int minute = 0; minute < n; minute++) {
            upper *= 10 - t;
            lower *= 10;
        }
        return partOf(upper, lower, part);
    }

    public long ship(int p, int m, int n, int part) {
        if (!within(p, 1, 9) || !within(m, 0, 99) || !within(n, 0, 99) || !within(part, 0, 1)) {
            return LOST + OUTSIDE;
        }
        int burntThen = Math.max(0, SHIP_WAX - p * m);
        int burnsStill = Math.max(0, SHIP_WAX - p * (m + n));
        return burntThen == 0 ? partOf(0, 1, part) : partOf(burnsStill, burntThen, part);
    }

    public int year(int seed, int m, int what) {
        if (!within(seed, 0, 9999) || !within(m, 1, 99) || !within(what, 0, 2)) {
            return OUTSIDE;
        }
        play.draws(town, seed, m);
        switch (what) {
            case 0:
                return play.paid;
            case 1:
                return play.scene.waxOfAll();
            default:
                return Integer.bitCount(play.scene.lit);
        }
    }

    public int image(int n) {
        if (!within(n, 0, 1)) {
            return OUTSIDE;
        }
        imageOf(n).copyFrom(town);
        kept[n] = true;
        return 1;
    }

    public int restore(int n) {
        if (!within(n, 0, 1)) {
            return OUTSIDE;
        }
        if (!kept[n]) {
            return STATE;
        }
        town.copyFrom(imageOf(n));
        return 1;
    }

    public int told(int what) {
        if (within(what, 10, 10 + ONES - 1)) {
            return town.purses[what - 10];
        }
        if (within(what, 100, 100 + 10 * CANDLES - 1)) {
            return toldOfCandle((what - 100) / 10, what % 10);
        }
        switch (what) {
            case 0:
                return pad.count;
            case 1:
                return town.lit;
            case 2:
                return town.matchesLeft;
            case 3:
                return town.minute;
            case 4:
                return town.sights;
            default:
                return OUTSIDE;
        }
    }

    // ---- what the calls share

    private static boolean within(int v, int least, int most) {
        return v >= least && v <= most;
    }

    private static boolean isCandle(int v) {
        return within(v, 0, CANDLES - 1);
    }

    private static boolean isOne(int v) {
        return within(v, 0, ONES - 1);
    }

    private static int bit(int candle) {
        return 1 << candle;
    }

    private static boolean holds(int set, int candle) {
        return (set >> candle & 1) != 0;
    }

    private Town imageOf(int n) {
        return n == 0 ? firstImage : secondImage;
    }

    private boolean nightCanBe() {
        return pad.firstFault() == NONE && play.night(town, pad);
    }

    private int toldOfCandle(int candle, int what) {
        switch (what) {
            case 0:
                return town.wax[candle];
            case 1:
                return town.isLit(candle) ? 1 : 0;
            case 2:
                return town.trimmed[candle];
            case 3:
                return town.draughts[candle];
            case 4:
                return town.creditors[candle];
            case 5:
                return town.debtors[candle];
            case 6:
                return town.sums[candle];
            case 7:
                return town.burnOf(candle);
            default:
                return OUTSIDE;
        }
    }

    /**
     * Sets that can be read in time are a matroid (jobs of one length with deadlines), so taking
     * each CANDLE that still fits, from the least on, gives the most of them and the least bits.
     */
    private int readableSet(int d) {
        int read = 0;
        for (int c = 0; c < CANDLES; c++) {
            if (town.isLit(c) && canBeRead(read | bit(c), d)) {
                read |= bit(c);
            }
        }
        return read;
    }

    /** The shortest are read first: by the end of each, all that last no longer are read too. */
    private boolean canBeRead(int set, int d) {
        for (int c = 0; c < CANDLES; c++) {
            if (!holds(set, c)) {
                continue;
            }
            int left = town.minutesLeft(c);
            int readByThen = 0;
            for (int o = 0; o < CANDLES; o++) {
                if (holds(set, o) && town.minutesLeft(o) <= left) {
                    readByThen++;
                }
            }
            if (readByThen * d > left) {
                return false;
            }
        }
        return true;
    }

    /** A row of CANDLES with WAX needs one match, if one of the set is in it and none is LIT. */
    private int matchesFor(int set) {
        int needed = 0;
        boolean wanted = false;
        boolean burning = false;
        for (int c = 0; c < CANDLES; c++) {
            if (town.wax[c] > 0) {
                wanted |= holds(set, c);
                burning |= town.isLit(c);
            }
            boolean rowEnds = town.wax[c] == 0 || c == CANDLES - 1;
            if (rowEnds) {
                needed += wanted && !burning ? 1 : 0;
                wanted = false;
                burning = false;
            }
        }
        return needed;
    }

    private static int winningSnuff(int lit) {
        for (int c = 0; c < CANDLES; c++) {
            int gone = bit(c) | bit(c + 1) | bit(c) >> 1;
            if (holds(lit, c) && worthOf(lit & ~gone) == 0) {
                return c;
            }
        }
        return NONE;
    }

    private static int worthOf(int lit) {
        int worth = 0;
        int row = 0;
        for (int c = 0; c < CANDLES; c++) {
            if (holds(lit, c)) {
                row++;
            } else {
                worth ^= ROW_WORTH[row];
                row = 0;
            }
        }
        return worth ^ ROW_WORTH[row];
    }

    /** Neither number is below 0, and the lower one is above 0. */
    private static long partOf(long upper, long lower, int part) {
        long common = lower;
        long rest = upper;
        // Euclid's steps for numbers of 64 bits are fewer than 100
        for (int step = 0; step < 100 && rest > 0; step++) {
            long over = common % rest;
            common = rest;
            rest = over;
        }
        if (common < 1) {
            return part == 0 ? upper : lower;
        }
        return part == 0 ? upper / common : lower / common;
    }

    /** All that an IMAGE keeps: the street, the purses, the SIGHTS. */
    private static final class Town {
        final int[] wax = new int[CANDLES];
        final int[] trimmed = new int[CANDLES];
        final int[] draughts = new int[CANDLES];
        final int[] creditors = new int[CANDLES];
        final int[] debtors = new int[CANDLES];
        final int[] sums = new int[CANDLES];
        /** Of each CANDLE those JOINED with it, and itself. */
        final int[] groups = new int[CANDLES];
        final int[] purses = new int[ONES];
        final int[] sightCandles = new int[MOST_SIGHTS];
        final int[] sightLosses = new int[MOST_SIGHTS];
        int sights;
        int lit;
        int matchesLeft = 20;
        int minute;

        Town() {
            for (int c = 0; c < CANDLES; c++) {
                groups[c] = bit(c);
            }
            for (int one = 0; one < ONES; one++) {
                purses[one] = 100;
            }
        }

        void copyFrom(Town other) {
            System.arraycopy(other.wax, 0, wax, 0, CANDLES);
            System.arraycopy(other.trimmed, 0, trimmed, 0, CANDLES);
            System.arraycopy(other.draughts, 0, draughts, 0, CANDLES);
            System.arraycopy(other.creditors, 0, creditors, 0, CANDLES);
            System.arraycopy(other.debtors, 0, debtors, 0, CANDLES);
            System.arraycopy(other.sums, 0, sums, 0, CANDLES);
            System.arraycopy(other.groups, 0, groups, 0, CANDLES);
            System.arraycopy(other.purses, 0, purses, 0, ONES);
            System.arraycopy(other.sightCandles, 0, sightCandles, 0, MOST_SIGHTS);
            System.arraycopy(other.sightLosses, 0, sightLosses, 0, MOST_SIGHTS);
            sights = other.sights;
            lit = other.lit;
            matchesLeft = other.matchesLeft;
            minute = other.minute;
        }

        void place(int candle, int newWax, int creditor, int debtor, int sum) {
            wax[candle] = newWax;
            creditors[candle] = creditor;
            debtors[candle] = debtor;
            sums[candle] = sum;
            trimmed[candle] = 0;
            lit &= ~bit(candle);
            part(candle);
        }

        boolean addSight(int candle, int lost) {
            if (sights >= MOST_SIGHTS) {
                return false;
            }
            sightCandles[sights] = candle;
            sightLosses[sights] = lost;
            sights++;
            return true;
        }

        /** Told without holds: the deepest calls of a night end here, and are to stay seven deep. */
        boolean isLit(int candle) {
            return (lit >> candle & 1) != 0;
        }

        boolean canBeAsked(int candle) {
            return isLit(candle) && sums[candle] > 0;
        }

        int burnOf(int candle) {
            return burnTrimmed(candle, trimmed[candle]);
        }

        int burnTrimmed(int candle, int times) {
            int burn = 1 + draughts[candle] - times;
            return burn < 1 ? 1 : burn;
        }

        int minutesLeft(int candle) {
            return minutesLeftTrimmed(candle, trimmed[candle]);
        }

        int minutesLeftTrimmed(int candle, int times) {
            int burn = burnTrimmed(candle, times);
            return (wax[candle] + burn - 1) / burn;
        }

        boolean outlasts(int candle, int minutes) {
            return isLit(candle) && minutesLeft(candle) > minutes;
        }

        int howManyOutlast(int minutes) {
            int count = 0;
            for (int c = 0; c < CANDLES; c++) {
                count += outlasts(c, minutes) ? 1 : 0;
            }
            return count;
        }

        int waxOfAll() {
            int all = 0;
            for (int c = 0; c < CANDLES; c++) {
                all += wax[c];
            }
            return all;
        }

        /** Why an ACT can not be; 0, if it can. For w the second is the DRAUGHT to be. */
        int reasonAgainst(int kind, int first, int second) {
            switch (kind) {
                case BY_MATCH:
                    return wax[first] == 0 ? 1 : isLit(first) ? 2 : matchesLeft == 0 ? 3 : 0;
                case SNUFFED:
                    return isLit(first) ? 0 : 2;
                case ASKED:
                    return reasonAgainstAsking(first);
                case TRIMMED_MORE:
                    return trimmed[first] >= MOST_TRIMMED ? 5 : 0;
                case LIT_FROM:
                    return reasonAgainstLighting(first, second);
                case DRAUGHT_IS:
                    return draughts[first] == second ? 7 : 0;
                default:
                    return minute >= LAST_MINUTE ? 8 : 0;
            }
        }

        private int reasonAgainstAsking(int candle) {
            if (!isLit(candle)) {
                return 2;
            }
            if (sums[candle] == 0) {
                return 5;
            }
            // who pays himself has no more behind it than ahead of it
            boolean another = creditors[candle] != debtors[candle];
            return another && purses[creditors[candle]] + dueOf(candle) > MOST_PURSE ? 6 : 0;
        }

        private int reasonAgainstLighting(int from, int to) {
            if (wax[to] == 0) {
                return 1;
            }
            if (isLit(to) || !isLit(from)) {
                return 2;
            }
            return to == from - 1 || to == from + 1 ? 0 : 4;
        }

        private int dueOf(int candle) {
            int purse = purses[debtors[candle]];
            return purse < sums[candle] ? purse : sums[candle];
        }

        void lightByMatch(int candle) {
            matchesLeft--;
            lit |= bit(candle);
            part(candle);
        }

        void putOut(int candle) {
            lit &= ~groups[candle];
        }

        /** What was paid. */
        int pay(int candle) {
            int due = dueOf(candle);
            purses[debtors[candle]] -= due;
            purses[creditors[candle]] += due;
            sums[candle] -= due;
            return due;
        }

        void lightFrom(int from, int to) {
            lit |= bit(to);
            int all = groups[from] | groups[to];
            for (int c = 0; c < CANDLES; c++) {
                if (holds(all, c)) {
                    groups[c] = all;
                }
            }
        }

        /** Which went out by themselves. */
        int passMinute() {
            minute++;
            int out = 0;
            for (int c = 0; c < CANDLES; c++) {
                if (isLit(c)) {
                    wax[c] = Math.max(0, wax[c] - burnOf(c));
                    out |= wax[c] == 0 ? bit(c) : 0;
                    sums[c] = wax[c] == 0 ? 0 : sums[c];
                }
            }
            lit &= ~out;
            return out;
        }

        /** Those it leaves stay JOINED with each other. */
        private void part(int candle) {
            for (int c = 0; c < CANDLES; c++) {
                groups[c] &= ~bit(candle);
            }
            groups[candle] = bit(candle);
        }
    }

    /** The PAD, and the ACT that was read from it last. */
    private static final class Pad {
        private static final int NOTHING = -1;

        final int[] signs = new int[MOST_SIGNS];
        int count;
        int kind;
        int first;
        int second;
        int next;

        boolean write(int sign) {
            if (count >= MOST_SIGNS) {
                return false;
            }
            signs[count] = sign;
            count++;
            return true;
        }

        int firstFault() {
            int place = 0;
            for (int act = 0; act < MOST_SIGNS && place < count; act++) {
                int bad = readAct(place);
                if (bad != NONE) {
                    return bad;
                }
                place = next;
            }
            return NONE;
        }

        /** THE FAULT in the ACT at a place, NONE if it has none. */
        int readAct(int place) {
            kind = signAt(place);
            first = 0;
            second = 0;
            next = place + 1;
            if (kind == MINUTE) {
                return NONE;
            }
            if (kind == DRAUGHT_IS) {
                return readDraught(place);
            }
            return readOfCandle(place);
        }

        private int readDraught(int place) {
            first = letterAt(place + 1);
            second = digitAt(place + 2);
            next = place + 3;
            if (first == NOTHING) {
                return place + 1;
            }
            return second == NOTHING ? place + 2 : NONE;
        }

        private int readOfCandle(int place) {
            first = letterAt(place);
            kind = signAt(place + 1);
            next = place + 2;
            if (first == NOTHING) {
                return place;
            }
            if (kind == LIT_FROM) {
                second = letterAt(place + 2);
                next = place + 3;
                return second == NOTHING ? place + 2 : NONE;
            }
            boolean known = kind == BY_MATCH || kind == SNUFFED || kind == ASKED || kind == TRIMMED_MORE;
            return known ? NONE : place + 1;
        }

        /** Past the end there is no sign, which fits nowhere: so THE FAULT is there, if more must come. */
        private int signAt(int place) {
            return place >= 0 && place < count && place < MOST_SIGNS ? signs[place] : NOTHING;
        }

        private int letterAt(int place) {
            int sign = signAt(place);
            return within(sign, 'a', 'a' + CANDLES - 1) ? sign - 'a' : NOTHING;
        }

        private int digitAt(int place) {
            int sign = signAt(place);
            return within(sign, '0', '9') ? sign - '0' : NOTHING;
        }
    }

    /** ACTS on a scene of its own, so that nothing is DONE in fact. */
    private static final class Play {
        final Town scene = new Town();
        int acts;
        int why;
        int paid;
        int outAct;
        int outCandle;

        private void begin(Town from) {
            scene.copyFrom(from);
            acts = 0;
            why = 0;
            paid = 0;
            outAct = NONE;
            outCandle = NONE;
        }

        /** Of NIGHTS without a FAULT: whether all ACTS can be; if not, it stops ahead of the first that can not. */
        boolean night(Town from, Pad pad) {
            begin(from);
            int place = 0;
            for (int act = 0; act < MOST_SIGNS && place < pad.count; act++) {
                if (pad.readAct(place) != NONE || !attempt(pad.kind, pad.first, pad.second)) {
                    return false;
                }
                place = pad.next;
            }
            return true;
        }

        /** A YEAR: ACTS that can not be are left out. */
        void draws(Town from, int seed, int m) {
            begin(from);
            int x = seed;
            for (int act = 0; act < m; act++) {
                x = (75 * x + 74) % YEAR_RING;
                int kind = DRAWN_KINDS[x % 8];
                int candle = x / 8 % CANDLES;
                int second = kind == LIT_FROM ? candle + 1 : x / 96 % 10;
                if (kind != LIT_FROM || isCandle(second)) {
                    attempt(kind, candle, second);
                }
            }
        }

        private boolean attempt(int kind, int first, int second) {
            why = scene.reasonAgainst(kind, first, second);
            if (why != 0) {
                return false;
            }
            switch (kind) {
                case BY_MATCH:
                    scene.lightByMatch(first);
                    break;
                case SNUFFED:
                    scene.putOut(first);
                    break;
                case ASKED:
                    paid += scene.pay(first);
                    break;
                case TRIMMED_MORE:
                    scene.trimmed[first]++;
                    break;
                case LIT_FROM:
                    scene.lightFrom(first, second);
                    break;
                case DRAUGHT_IS:
                    scene.draughts[first] = second;
                    break;
                default:
                    noteOut(scene.passMinute());
                    break;
            }
            acts++;
            return true;
        }

        private void noteOut(int out) {
            if (outAct != NONE) {
                return;
            }
            for (int c = 0; c < CANDLES; c++) {
                if (holds(out, c)) {
                    outAct = acts;
                    outCandle = c;
                    return;
                }
            }
        }
    }

    /**
     * ROUND. What was passed is always a stretch of windows, and he stands at one of its ends when
     * it has just grown; sooner is never worse, so the least minute for each stretch and end is
     * enough. The rows hold it for all stretches of one length, by their western end.
     */
    private static final class Walk {
        final int[] limits = new int[CANDLES];
        final int[] atWest = new int[CANDLES];
        final int[] atEast = new int[CANDLES];
        int west;
        int east;

        /** Whether he has to go at all. */
        boolean isNeeded(Town town, int from) {
            west = from;
            east = from;
            for (int c = 0; c < CANDLES; c++) {
                boolean asks = town.canBeAsked(c);
                limits[c] = asks ? town.minutesLeft(c) : FAR;
                west = asks ? Math.min(west, c) : west;
                east = asks ? Math.max(east, c) : east;
            }
            return west < from || east > from;
        }

        /** With the first step west (-1) or east (1); FAR, if he can not. */
        int fewestMinutes(int from, int step) {
            int next = from + step;
            if (!isCandle(next)) {
                return FAR;
            }
            for (int c = 0; c < CANDLES; c++) {
                atWest[c] = FAR;
                atEast[c] = FAR;
            }
            if (step < 0) {
                atWest[next] = inTime(next, 1);
            } else {
                atEast[from] = inTime(next, 1);
            }
            int fewest = fewestOfLength(2);
            for (int length = 3; length <= CANDLES; length++) {
                lengthenTo(length);
                fewest = Math.min(fewest, fewestOfLength(length));
            }
            return fewest;
        }

        private int inTime(int window, int minutes) {
            return minutes < limits[window] ? minutes : FAR;
        }

        /** From west to east, as a stretch is made of the shorter ones that begin with it or next to it. */
        private void lengthenTo(int length) {
            int across = length - 1;
            for (int w = 0; w + across < CANDLES; w++) {
                int toWest = Math.min(atWest[w + 1] + 1, atEast[w + 1] + across);
                int toEast = Math.min(atEast[w] + 1, atWest[w] + across);
                atWest[w] = inTime(w, toWest);
                atEast[w] = inTime(w + across, toEast);
            }
        }

        private int fewestOfLength(int length) {
            int fewest = FAR;
            for (int w = 0; w + length <= CANDLES; w++) {
                boolean all = w <= west && w + length - 1 >= east;
                fewest = all ? Math.min(fewest, Math.min(atWest[w], atEast[w])) : fewest;
            }
            return fewest;
        }
    }

    /**
     * SNEEZES that fit all SIGHTS: what a CANDLE loses grows with the minute until its WAX is gone,
     * so for each window and distance the minutes that fit are one span (none, if it ends before it
     * begins).
     */
    private static final class Sneezing {
        final int[] begins = new int[SPANS];
        final int[] ends = new int[SPANS];
        final int[] changes = new int[HOUR + 2];

        void fit(Town town) {
            for (int s = 0; s < SPANS; s++) {
                begins[s] = 0;
                ends[s] = HOUR;
                for (int i = 0; i < town.sights && i < MOST_SIGHTS; i++) {
                    narrow(s, town, town.sightCandles[i], town.sightLosses[i]);
                }
            }
        }

        private void narrow(int s, Town town, int candle, int lost) {
            int earliest = earliestFor(town, candle, lost);
            boolean gone = lost == town.wax[candle];
            int latest = gone ? HOUR : earliest;
            if (reaches(s, candle)) {
                begins[s] = Math.max(begins[s], earliest);
                ends[s] = Math.min(ends[s], latest);
            } else if (earliest > HOUR || latest < HOUR) {
                // it burnt the whole hour, as if it went out at its end
                ends[s] = -1;
            }
        }

        /** The first minute by which it lost so much; past the hour, if it never lost just that. */
        private static int earliestFor(Town town, int candle, int lost) {
            if (lost == town.wax[candle]) {
                return town.minutesLeft(candle);
            }
            int burn = town.burnOf(candle);
            return lost < town.wax[candle] && lost % burn == 0 ? lost / burn : HOUR + 1;
        }

        private static boolean reaches(int s, int candle) {
            int window = s / REACHES;
            return Math.abs(candle - window) <= s % REACHES;
        }

        private int countOf(int s) {
            return Math.max(0, ends[s] - begins[s] + 1);
        }

        int howMany() {
            int count = 0;
            for (int s = 0; s < SPANS; s++) {
                count += countOf(s);
            }
            return count;
        }

        /** The i-th, rising; NONE. */
        int at(int i) {
            int left = i;
            for (int window = 0; window < CANDLES && left >= 0; window++) {
                int here = 0;
                for (int d = 0; d < REACHES; d++) {
                    here += countOf(window * REACHES + d);
                }
                if (left < here) {
                    return atWindow(window, left);
                }
                left -= here;
            }
            return NONE;
        }

        private int atWindow(int window, int i) {
            int left = i;
            for (int t = 0; t <= HOUR; t++) {
                for (int d = 0; d < REACHES; d++) {
                    int s = window * REACHES + d;
                    if (within(t, begins[s], ends[s])) {
                        if (left == 0) {
                            return 1000 * window + 10 * t + d;
                        }
                        left--;
                    }
                }
            }
            return NONE;
        }

        /** How many are left at the most, whatever the CANDLE lost. */
        int mostLeft(Town town, int candle) {
            for (int t = 0; t < HOUR + 2; t++) {
                changes[t] = 0;
            }
            // all minutes from its end on are one loss, and so is not being reached at all
            int burnt = Math.min(HOUR, town.minutesLeft(candle));
            int leftIfBurnt = 0;
            for (int s = 0; s < SPANS; s++) {
                if (!reaches(s, candle)) {
                    leftIfBurnt += countOf(s);
                } else if (countOf(s) > 0) {
                    changes[begins[s]]++;
                    changes[ends[s] + 1]--;
                }
            }
            int most = 0;
            int atMinute = 0;
            for (int t = 0; t <= HOUR; t++) {
                atMinute += changes[t];
                if (t < burnt) {
                    most = Math.max(most, atMinute);
                } else {
                    leftIfBurnt += atMinute;
                }
            }
            return Math.max(most, leftIfBurnt);
        }
    }
}
