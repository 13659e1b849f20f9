import java.math.BigInteger;
import java.util.ArrayList;
import java.util.Arrays;
import java.util.HashMap;
import java.util.HashSet;
import java.util.List;
import java.util.Map;
import java.util.Random;
import java.util.Set;

/**
 * Runs of drawn calls (by fixed seeds) beside a slow street that tries everything out: walks step by
 * step, sets one by one, sneezes minute by minute. It shares no way of reckoning with the program.
 */
public final class ReferenceTest {
    private static final int NONE = -6, UNKNOWN = -1, OUTSIDE = -2, STATE = -3, FULL = -4, NO = -5;
    private static int wrong = 0;

    private static final class Street {
        int[] wax = new int[12], trimmed = new int[12], draught = new int[12];
        int[] creditor = new int[12], debtor = new int[12], sum = new int[12];
        boolean[] lit = new boolean[12];
        int[] purse = {100, 100, 100, 100, 100, 100};
        int matches = 20, minute = 0, paid = 0, outAct = NONE, outCandle = NONE;
        List<Set<Integer>> groups = new ArrayList<>();
        List<int[]> sights = new ArrayList<>();

        Street() {
            for (int c = 0; c < 12; c++) {
                groups.add(new HashSet<>(Set.of(c)));
            }
        }

        Street copy() {
            Street s = new Street();
            s.wax = wax.clone();
            s.trimmed = trimmed.clone();
            s.draught = draught.clone();
            s.creditor = creditor.clone();
            s.debtor = debtor.clone();
            s.sum = sum.clone();
            s.lit = lit.clone();
            s.purse = purse.clone();
            s.matches = matches;
            s.minute = minute;
            s.groups = new ArrayList<>();
            for (Set<Integer> g : groups) {
                s.groups.add(new HashSet<>(g));
            }
            s.sights = new ArrayList<>(sights);
            return s;
        }

        Set<Integer> groupOf(int c) {
            for (Set<Integer> g : groups) {
                if (g.contains(c)) {
                    return g;
                }
            }
            throw new IllegalStateException();
        }

        void leave(int c) {
            groupOf(c).remove(c);
            groups.add(new HashSet<>(Set.of(c)));
        }

        int burn(int c) {
            int b = 1 + draught[c] - trimmed[c];
            return b > 1 ? b : 1;
        }

        int lasts(int c) {
            int left = wax[c], minutes = 0;
            while (left > 0) {
                left -= burn(c);
                minutes++;
            }
            return minutes;
        }

        int litBits() {
            int set = 0;
            for (int c = 0; c < 12; c++) {
                set |= lit[c] ? 1 << c : 0;
            }
            return set;
        }

        /** Why it can not be, as a list of all reasons; the least counts. */
        int reason(String act) {
            boolean[] r = new boolean[9];
            int c = act.charAt(0) - 'a';
            if (act.equals(".")) {
                r[8] = minute == 999;
            } else if (act.charAt(0) == 'w') {
                r[7] = draught[act.charAt(1) - 'a'] == act.charAt(2) - '0';
            } else if (act.charAt(1) == '*') {
                r[3] = matches == 0;
                r[2] = lit[c];
                r[1] = wax[c] == 0;
            } else if (act.charAt(1) == '-') {
                r[2] = !lit[c];
            } else if (act.charAt(1) == '^') {
                r[5] = trimmed[c] == 9;
            } else if (act.charAt(1) == '!') {
                int[] after = purse.clone();
                int pays = Math.min(sum[c], after[debtor[c]]);
                after[debtor[c]] -= pays;
                after[creditor[c]] += pays;
                r[6] = after[creditor[c]] > 9999;
                r[5] = sum[c] == 0;
                r[2] = !lit[c];
            } else {
                int o = act.charAt(2) - 'a';
                r[4] = Math.abs(o - c) != 1;
                r[2] = lit[o] || !lit[c];
                r[1] = wax[o] == 0;
            }
            for (int i = 1; i < 9; i++) {
                if (r[i]) {
                    return i;
                }
            }
            return 0;
        }

        void act(String act, int number) {
            int c = act.charAt(0) - 'a';
            if (act.equals(".")) {
                minute++;
                for (int o = 11; o >= 0; o--) {
                    if (lit[o]) {
                        wax[o] -= Math.min(wax[o], burn(o));
                        if (wax[o] == 0) {
                            lit[o] = false;
                            sum[o] = 0;
                            if (outAct == NONE || outAct == number) {
                                outAct = number;
                                outCandle = o;
                            }
                        }
                    }
                }
            } else if (act.charAt(0) == 'w') {
                draught[act.charAt(1) - 'a'] = act.charAt(2) - '0';
            } else if (act.charAt(1) == '*') {
                matches--;
                lit[c] = true;
                leave(c);
            } else if (act.charAt(1) == '-') {
                for (int o : groupOf(c)) {
                    lit[o] = false;
                }
            } else if (act.charAt(1) == '^') {
                trimmed[c]++;
            } else if (act.charAt(1) == '!') {
                int pays = Math.min(sum[c], purse[debtor[c]]);
                purse[debtor[c]] -= pays;
                purse[creditor[c]] += pays;
                sum[c] -= pays;
                paid += pays;
            } else {
                int o = act.charAt(2) - 'a';
                lit[o] = true;
                Set<Integer> a = groupOf(c), b = groupOf(o);
                if (a != b) {
                    a.addAll(b);
                    groups.remove(b);
                }
            }
        }

        int lossAt(int c, int window, int t, int d) {
            int left = wax[c];
            for (int minute = 0; minute < 60; minute++) {
                boolean out = minute >= t && Math.abs(window - c) <= d;
                left -= out ? 0 : Math.min(left, burn(c));
            }
            return wax[c] - left;
        }

        List<Integer> sneezes() {
            List<Integer> fit = new ArrayList<>();
            for (int code = 0; code < 12000; code++) {
                int w = code / 1000, t = code % 1000 / 10, d = code % 10;
                if (t > 60 || d > 3) {
                    continue;
                }
                boolean all = true;
                for (int[] s : sights) {
                    all = all && lossAt(s[0], w, t, d) == s[1];
                }
                if (all) {
                    fit.add(code);
                }
            }
            return fit;
        }

        int[] look() {
            List<Integer> fit = sneezes();
            int best = NONE, fewest = NONE;
            for (int c = 0; c < 12 && !fit.isEmpty(); c++) {
                Map<Integer, Integer> tally = new HashMap<>();
                for (int code : fit) {
                    tally.merge(lossAt(c, code / 1000, code % 1000 / 10, code % 10), 1, Integer::sum);
                }
                int most = 0;
                for (int v : tally.values()) {
                    most = Math.max(most, v);
                }
                if (best == NONE || most < fewest) {
                    best = c;
                    fewest = most;
                }
            }
            return new int[] {best, fewest};
        }

        /** All places with all sets of those asked, minute by minute; a first step may be told. */
        int walk(int from, int step) {
            int all = 0;
            for (int c = 0; c < 12; c++) {
                all |= lit[c] && sum[c] > 0 ? 1 << c : 0;
            }
            Set<Integer> now = new HashSet<>();
            now.add(from << 12 | all & 1 << from);
            for (int t = 0; t < 150; t++) {
                Set<Integer> next = new HashSet<>();
                for (int state : now) {
                    int at = state >> 12, asked = state & 4095;
                    if (asked == all) {
                        return t;
                    }
                    for (int go = at - 1; go <= at + 1; go += 2) {
                        if (go < 0 || go > 11 || t == 0 && step != 0 && go != from + step) {
                            continue;
                        }
                        boolean canAsk = (all >> go & 1) != 0 && t + 1 < lasts(go);
                        next.add(go << 12 | asked | (canAsk ? 1 << go : 0));
                    }
                }
                now = next;
            }
            return NONE;
        }

        int round(int from, int what) {
            int fewest = walk(from, 0);
            if (what == 0) {
                return fewest;
            }
            if (fewest <= 0) {
                return NONE;
            }
            return from > 0 && walk(from, -1) == fewest ? 0 : 1;
        }

        /** A set can be read, if one of it can be the last and the others be read ahead of it. */
        int accounts(int d, int what) {
            boolean[] can = new boolean[4096];
            can[0] = true;
            int best = 0;
            for (int set = 1; set < 4096; set++) {
                for (int c = 0; c < 12; c++) {
                    boolean in = (set >> c & 1) != 0 && lit[c];
                    can[set] |= in && can[set & ~(1 << c)] && Integer.bitCount(set) * d <= lasts(c);
                }
                if (can[set] && Integer.bitCount(set) > Integer.bitCount(best)) {
                    best = set;
                }
            }
            return what == 0 ? Integer.bitCount(best) : best;
        }

        int jubilee(int set) {
            int fewest = NONE;
            for (int struck = 0; struck < 4096; struck++) {
                boolean[] burns = lit.clone();
                boolean can = true;
                for (int c = 0; c < 12; c++) {
                    can = can && ((struck >> c & 1) == 0 || wax[c] > 0);
                    burns[c] |= (struck >> c & 1) != 0;
                }
                for (int again = 0; again < 12; again++) {
                    for (int c = 0; c < 12; c++) {
                        boolean beside = c > 0 && burns[c - 1] || c < 11 && burns[c + 1];
                        burns[c] |= wax[c] > 0 && beside;
                    }
                }
                for (int c = 0; c < 12; c++) {
                    can = can && ((set >> c & 1) == 0 || burns[c]);
                }
                if (can && (fewest == NONE || Integer.bitCount(struck) < fewest)) {
                    fewest = Integer.bitCount(struck);
                }
            }
            return fewest;
        }

        int trims(int c, int n) {
            Street s = copy();
            for (int more = 0; ; more++) {
                if (s.lasts(c) >= n) {
                    return more;
                }
                if (s.trimmed[c] == 9) {
                    return NONE;
                }
                s.trimmed[c]++;
            }
        }

        BigInteger[] moths(int candle, int t, int n) {
            BigInteger upper = BigInteger.ZERO, lower = BigInteger.TEN.pow(n);
            for (int c = 0; c < 12; c++) {
                if (lit[c] && (candle == -1 || candle == c)) {
                    int left = wax[c];
                    for (int minute = 0; minute < n; minute++) {
                        left -= burn(c);
                    }
                    upper = upper.add(left > 0 ? BigInteger.valueOf(10 - t).pow(n) : BigInteger.ZERO);
                }
            }
            BigInteger common = upper.gcd(lower);
            return new BigInteger[] {upper.divide(common), lower.divide(common)};
        }

        int year(int seed, int m, int what) {
            Street s = copy();
            long x = seed;
            for (int i = 0; i < m; i++) {
                x = (75 * x + 74) % 65537;
                char c = (char) ('a' + x / 8 % 12);
                String[] kinds = {c + "*", c + "-", c + "!", c + "^", c + ">" + (char) (c + 1), "w" + c + x / 96 % 10, ".", "."};
                String act = kinds[(int) (x % 8)];
                if (!act.equals("l>m") && s.reason(act) == 0) {
                    s.act(act, i);
                }
            }
            return what == 0 ? s.paid : what == 1 ? Arrays.stream(s.wax).sum() : Integer.bitCount(s.litBits());
        }
    }

    private static final Map<Integer, Boolean> WINS = new HashMap<>();

    private static boolean wins(int lit) {
        Boolean known = WINS.get(lit);
        if (known != null) {
            return known;
        }
        boolean win = firstSnuff(lit) != NONE;
        WINS.put(lit, win);
        return win;
    }

    private static int firstSnuff(int lit) {
        for (int c = 0; c < 12; c++) {
            if ((lit >> c & 1) != 0 && !wins(lit & ~(1 << c | 1 << c + 1 | (c > 0 ? 1 << c - 1 : 0)))) {
                return c;
            }
        }
        return NONE;
    }

    private static long[] ship(int p, int m, int n) {
        int then = 0, still = 0;
        for (int wax = 1; wax <= 200; wax++) {
            then += wax - p * m > 0 ? 1 : 0;
            still += wax - p * (m + n) > 0 ? 1 : 0;
        }
        if (then == 0 || still == 0) {
            return new long[] {0, 1};
        }
        for (int by = then; by > 1; by--) {
            if (then % by == 0 && still % by == 0) {
                then /= by;
                still /= by;
            }
        }
        return new long[] {still, then};
    }

    private static int fault(String text) {
        // the longest head of whole acts, then how far the next one goes
        int at = 0;
        while (at < text.length()) {
            String rest = text.substring(at);
            if (rest.startsWith(".")) {
                at++;
            } else if (rest.matches("(?s)[a-l][*!^-].*")) {
                at += 2;
            } else if (rest.matches("(?s)([a-l]>[a-l]|w[a-l][0-9]).*")) {
                at += 3;
            } else if (rest.matches("(?s)([a-l]>|w[a-l]).*")) {
                return at + 2;
            } else if (rest.matches("(?s)[a-lw].*")) {
                return at + 1;
            } else {
                return at;
            }
        }
        return NONE;
    }

    private static List<String> acts(String text) {
        List<String> acts = new ArrayList<>();
        for (int at = 0; at < text.length(); ) {
            char s = text.charAt(at);
            int length = s == '.' ? 1 : s == 'w' || text.charAt(at + 1) == '>' ? 3 : 2;
            acts.add(text.substring(at, at + length));
            at += length;
        }
        return acts;
    }

    private final int run;
    private final Random random;
    private final CandleDebts x = new CandleDebts();
    private Street street = new Street();
    private final Street[] images = new Street[2];
    private String pad = "";

    private ReferenceTest(int run) {
        this.run = run;
        this.random = new Random(run);
    }

    private void due(String call, long got, long want) {
        if (got != want) {
            wrong++;
            System.out.println("run " + run + ": " + call + " answered " + got + ", due is " + want + ", the pad is " + pad);
        }
    }

    private int draw(int below) {
        return random.nextInt(below);
    }

    /** Mostly a CANDLE of the first few, so that they meet. */
    private char letter() {
        return (char) ('a' + (draw(4) == 0 ? draw(12) : draw(5)));
    }

    private String drawnAct() {
        char c = letter();
        switch (draw(9)) {
            case 0:
            case 1:
                return c + "*";
            case 2:
                return c + "-";
            case 3:
                return c + "!";
            case 4:
                return c + "^";
            case 5:
            case 6:
                return c + ">" + (char) Math.max('a', Math.min('l', c + (draw(2) == 0 ? 1 : -1) * (draw(12) == 0 ? 2 : 1)));
            case 7:
                return "w" + c + draw(10);
            default:
                return ".";
        }
    }

    /** A text whose acts can mostly be, now and then with a fault or an act that can not be. */
    private String drawnText() {
        StringBuilder text = new StringBuilder();
        Street s = street.copy();
        int want = draw(20);
        for (int i = 0; i < 60 && want > 0; i++) {
            String act = drawnAct();
            if (s.reason(act) == 0 || draw(60) == 0) {
                if (s.reason(act) == 0) {
                    s.act(act, i);
                }
                text.append(act);
                want--;
            }
        }
        if (draw(8) == 0) {
            text.insert(draw(text.length() + 1), (char) (33 + draw(94)));
        }
        if (draw(8) == 0 && text.length() > 0) {
            text.deleteCharAt(draw(text.length()));
        }
        return text.length() > 60 ? text.substring(0, 60) : text.toString();
    }

    private void night() {
        String text = drawnText();
        due("wipe()", x.wipe(), pad.length());
        pad = "";
        for (int i = 0; i < text.length(); i++) {
            pad += text.charAt(i);
            due("say", x.say(text.charAt(i)), i + 1);
        }
        int fault = fault(pad);
        due("fault()", x.fault(), fault);
        Street s = street.copy();
        int act = NONE, why = NONE;
        List<String> acts = fault == NONE ? acts(pad) : new ArrayList<>();
        for (int i = 0; i < acts.size() && act == NONE; i++) {
            int reason = s.reason(acts.get(i));
            if (reason != 0) {
                act = i;
                why = reason;
            } else {
                s.act(acts.get(i), i);
            }
        }
        boolean can = fault == NONE && act == NONE;
        due("judge(0)", x.judge(0), fault == NONE ? act : NO);
        due("judge(1)", x.judge(1), fault == NONE ? why : NO);
        int c = draw(12), one = draw(6);
        int[] behind = {s.wax[c], s.lit[c] ? 1 : 0, s.sum[c], s.trimmed[c]};
        for (int what = 0; what < 4; what++) {
            due("behind(" + c + ", " + what + ")", x.behind(c, what), can ? behind[what] : NO);
        }
        due("has(" + one + ")", x.has(one), can ? s.purse[one] : NO);
        int[] then = {s.litBits(), s.matches, s.minute, s.paid, s.outAct, s.outCandle};
        for (int what = 0; what < 6; what++) {
            due("then(" + what + ")", x.then(what), can ? then[what] : NO);
        }
        due("done()", x.done(), can ? acts.size() : NO);
        if (can) {
            pad = "";
            street = s;
            street.paid = 0;
            street.outAct = NONE;
            street.outCandle = NONE;
        }
    }

    private void change() {
        int c = letter() - 'a', one = draw(6);
        switch (draw(5)) {
            case 0:
            case 1:
                int wax = draw(6) == 0 ? draw(1000) : draw(30), sum = draw(5) == 0 ? draw(1000) : draw(60);
                int creditor = draw(6), debtor = draw(6);
                due("candle", x.candle(c, wax, creditor, debtor, sum), street.wax[c]);
                street.wax[c] = wax;
                street.sum[c] = sum;
                street.creditor[c] = creditor;
                street.debtor[c] = debtor;
                street.lit[c] = false;
                street.trimmed[c] = 0;
                street.leave(c);
                break;
            case 2:
                int v = draw(10);
                due("draught", x.draught(c, v), street.draught[c]);
                street.draught[c] = v;
                break;
            case 3:
                int purse = draw(3) == 0 ? 9999 - draw(30) : draw(100);
                due("purse", x.purse(one, purse), street.purse[one]);
                street.purse[one] = purse;
                break;
            default:
                int matches = draw(4) == 0 ? draw(3) : draw(100);
                due("matches", x.matches(matches), street.matches);
                street.matches = matches;
                break;
        }
    }

    private void sight() {
        int c = letter() - 'a', lost = draw(10);
        if (draw(3) != 0) {
            lost = street.lossAt(c, draw(3) == 0 ? draw(12) : draw(5), draw(2) == 0 ? draw(61) : draw(20), draw(4));
        }
        boolean full = street.sights.size() == 8;
        due("seen(" + c + ", " + lost + ")", x.seen(c, lost), full ? FULL : street.sights.size() + 1);
        if (!full) {
            street.sights.add(new int[] {c, lost});
        }
        if (draw(3) == 0) {
            due("forget()", x.forget(), street.sights.size());
            street.sights.clear();
        }
    }

    private void questions() {
        int c = draw(12), d = draw(4) == 0 ? 1 + draw(99) : 1 + draw(9), set = draw(4096) & draw(4096);
        due("lasts(" + c + ")", x.lasts(c), street.lasts(c));
        int joined = 0;
        for (int o : street.groupOf(c)) {
            joined |= o == c ? 0 : 1 << o;
        }
        due("joined(" + c + ")", x.joined(c), joined);
        for (int one = 0; one < 6; one++) {
            int may = 0, net = 100000;
            for (int o = 0; o < 12; o++) {
                may |= street.lit[o] && street.creditor[o] == one && street.sum[o] > 0 ? 1 << o : 0;
                net += street.lit[o] && street.creditor[o] == one ? street.sum[o] : 0;
                net -= street.lit[o] && street.debtor[o] == one ? street.sum[o] : 0;
            }
            due("may(" + one + ")", x.may(one), may);
            due("net(" + one + ")", x.net(one), net);
        }
        for (int what = 0; what < 2; what++) {
            due("round(" + c + ", " + what + ")", x.round(c, what), street.round(c, what));
            due("accounts(" + d + ", " + what + ")", x.accounts(d, what), street.accounts(d, what));
        }
        due("jubilee(" + set + ")", x.jubilee(set), street.jubilee(set));
        int n = draw(3) == 0 ? 1 + draw(999) : 1 + draw(30);
        due("trims(" + c + ", " + n + ")", x.trims(c, n), street.trims(c, n));
        int lit = street.litBits();
        due("snuff(0)", x.snuff(0), wins(lit) ? 1 : 0);
        due("snuff(1)", x.snuff(1), firstSnuff(lit));
    }

    private void chances() {
        int t = draw(11), n = draw(16);
        for (int c = -1; c < 12; c++) {
            for (int part = 0; part < 2; part++) {
                boolean can = c == -1 || street.lit[c];
                long want = can ? street.moths(c, t, n)[part].longValueExact() : CandleDebts.LOST + UNKNOWN;
                due("moths(" + c + ", " + t + ", " + n + ", " + part + ")", x.moths(c, t, n, part), want);
            }
        }
        int seed = draw(10000), m = 1 + draw(99);
        for (int what = 0; what < 3; what++) {
            due("year(" + seed + ", " + m + ", " + what + ")", x.year(seed, m, what), street.year(seed, m, what));
        }
    }

    private void sneezes() {
        List<Integer> fit = street.sneezes();
        due("sneezes(-1)", x.sneezes(-1), fit.size());
        int i = draw(fit.size() + 2);
        due("sneezes(" + i + ")", x.sneezes(i), i < fit.size() ? fit.get(i) : NONE);
        int[] look = street.look();
        due("look(0)", x.look(0), look[0]);
        due("look(1)", x.look(1), look[1]);
    }

    private void keep() {
        int n = draw(2);
        if (draw(2) == 0) {
            due("image(" + n + ")", x.image(n), 1);
            images[n] = street.copy();
        } else {
            due("restore(" + n + ")", x.restore(n), images[n] == null ? STATE : 1);
            street = images[n] == null ? street : images[n].copy();
        }
    }

    private void all() {
        int[] told = {pad.length(), street.litBits(), street.matches, street.minute, street.sights.size()};
        for (int what = 0; what < 5; what++) {
            due("told(" + what + ")", x.told(what), told[what]);
        }
        for (int one = 0; one < 6; one++) {
            due("told(" + (10 + one) + ")", x.told(10 + one), street.purse[one]);
        }
        for (int c = 0; c < 12; c++) {
            int[] of = {street.wax[c], street.lit[c] ? 1 : 0, street.trimmed[c], street.draught[c],
                street.creditor[c], street.debtor[c], street.sum[c], street.burn(c), OUTSIDE, OUTSIDE};
            for (int what = 0; what < 10; what++) {
                due("told(" + (100 + 10 * c + what) + ")", x.told(100 + 10 * c + what), of[what]);
            }
        }
    }

    private void go() {
        for (int c = 0; c < 12 && run % 3 != 0; c++) {
            int wax = run % 4 == 0 ? draw(1000) : draw(40), sum = draw(3) * draw(50);
            x.candle(c, wax, c % 6, c / 2, sum);
            street.wax[c] = wax;
            street.sum[c] = sum;
            street.creditor[c] = c % 6;
            street.debtor[c] = c / 2;
        }
        for (int step = 0; step < 60; step++) {
            change();
            night();
            if (step % 6 == 0) {
                questions();
                chances();
                all();
            }
            sight();
            if (step % 20 == 0) {
                sneezes();
            }
            if (draw(6) == 0) {
                keep();
            }
        }
    }

    /** Most are LIT and have little WAX: walks and readings are seldom in time. */
    private void crowdedStreet() {
        StringBuilder text = new StringBuilder();
        x.matches(99);
        street.matches = 99;
        int most = 3 + draw(40);
        for (int c = 0; c < 12; c++) {
            int wax = draw(8) == 0 ? 0 : 1 + draw(most), sum = draw(3) == 0 ? 0 : 1 + draw(9);
            int v = draw(3) == 0 ? draw(4) : 0;
            x.candle(c, wax, 0, 1, sum);
            x.draught(c, v);
            street.wax[c] = wax;
            street.sum[c] = sum;
            street.debtor[c] = 1;
            street.draught[c] = v;
            if (wax > 0 && draw(4) != 0) {
                String act = (char) ('a' + c) + "*";
                text.append(act);
                street.act(act, 0);
            }
        }
        for (int i = 0; i < text.length(); i++) {
            x.say(text.charAt(i));
        }
        due("done()", x.done(), text.length() / 2);
    }

    private void shortOfTime() {
        for (int c = 0; c < 12; c++) {
            due("round(" + c + ", 0)", x.round(c, 0), street.round(c, 0));
            due("round(" + c + ", 1)", x.round(c, 1), street.round(c, 1));
        }
        for (int d = 1; d < 12; d++) {
            due("accounts(" + d + ", 0)", x.accounts(d, 0), street.accounts(d, 0));
            due("accounts(" + d + ", 1)", x.accounts(d, 1), street.accounts(d, 1));
        }
        for (int i = 0; i < 4; i++) {
            int set = draw(4096) & draw(4096);
            due("jubilee(" + set + ")", x.jubilee(set), street.jubilee(set));
        }
    }

    /** SIGHTS of one true sneeze, near its window, each of which leaves fewer that fit. */
    private void oneSneeze() {
        int w = draw(12), t = draw(61), d = draw(4);
        for (int i = 0; i < 4; i++) {
            int c = Math.max(0, Math.min(11, w + draw(7) - 3));
            int lost = street.lossAt(c, w, t, d);
            due("seen(" + c + ", " + lost + ")", x.seen(c, lost), i + 1);
            street.sights.add(new int[] {c, lost});
            List<Integer> fit = street.sneezes();
            due("sneezes(-1)", x.sneezes(-1), fit.size());
            for (int k = 0; k < fit.size(); k += 1 + fit.size() / 40) {
                due("sneezes(" + k + ")", x.sneezes(k), fit.get(k));
            }
            due("sneezes(" + fit.size() + ")", x.sneezes(fit.size()), NONE);
            int[] look = street.look();
            due("look(0)", x.look(0), look[0]);
            due("look(1)", x.look(1), look[1]);
        }
    }

    private static void ships() {
        CandleDebts x = new CandleDebts();
        ReferenceTest told = new ReferenceTest(-1);
        for (int p = 1; p <= 9; p++) {
            for (int m = 0; m < 100; m += 3) {
                for (int n = 0; n < 100; n++) {
                    long[] want = ship(p, m, n);
                    told.due("ship(" + p + ", " + m + ", " + n + ", 0)", x.ship(p, m, n, 0), want[0]);
                    told.due("ship(" + p + ", " + m + ", " + n + ", 1)", x.ship(p, m, n, 1), want[1]);
                }
            }
        }
    }

    /** Every set of LIT candles. */
    private static void snuffs() {
        CandleDebts x = new CandleDebts();
        ReferenceTest told = new ReferenceTest(-2);
        for (int set = 0; set < 4096; set++) {
            x.matches(99);
            x.wipe();
            for (int c = 0; c < 12; c++) {
                x.candle(c, 9, 0, 1, 5);
                if ((set >> c & 1) != 0) {
                    x.say('a' + c);
                    x.say('*');
                }
            }
            x.done();
            told.due("told(1)", x.told(1), set);
            told.due("snuff(0) of " + set, x.snuff(0), wins(set) ? 1 : 0);
            told.due("snuff(1) of " + set, x.snuff(1), firstSnuff(set));
        }
    }

    public static void main(String[] args) {
        for (int run = 0; run < 150; run++) {
            new ReferenceTest(run).go();
        }
        for (int run = 1000; run < 1050; run++) {
            ReferenceTest crowded = new ReferenceTest(run);
            crowded.crowdedStreet();
            crowded.shortOfTime();
            crowded.oneSneeze();
        }
        ships();
        snuffs();
        if (wrong != 0) {
            System.out.println(wrong + " answers are not as due");
            System.exit(1);
        }
    }
}
