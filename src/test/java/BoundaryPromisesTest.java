import java.io.IOException;

/**
 * Each sentence of the document's Promises 1 to 32 that names a boundary case: a test of its own,
 * with the promise and the sentence in of(..).
 */
public final class BoundaryPromisesTest {
    private static final int NONE = -6, UNKNOWN = -1, OUTSIDE = -2, STATE = -3, FULL = -4, NO = -5;
    private static final long LOST = -1000000000000000000L;
    private static final int LEAST = Integer.MIN_VALUE, MOST = Integer.MAX_VALUE;
    private static final int[] NO_CANDLES = {LEAST, -2, -1, 12, 13, MOST};
    private static final int[] NO_ONES = {LEAST, -1, 6, 7, MOST};
    private static Sentences doc;

    private static void of(int promise, String sentence) {
        doc.of("Promise " + promise, sentence);
    }

    private static void due(String call, long got, long want) {
        doc.due(call, got, want);
    }

    /** What is not one of 0 to most. */
    private static int[] notUpTo(int most) {
        return new int[] {LEAST, -1, most + 1, most + 2, MOST};
    }

    private static void newObject() {
        of(1, "Windows without WAX.");
        CandleDebts x = new CandleDebts();
        for (int c = 0; c < 12; c++) {
            due("WAX of " + c, x.told(100 + 10 * c), 0);
            due("lasts(" + c + ")", x.lasts(c), 0);
            due("trims(" + c + ", 1)", x.trims(c, 1), NONE);
            Streets.write(x, (char) ('a' + c) + "*");
            due("a match for " + c, x.judge(1), 1);
        }
        due("the PAD of another new object", new CandleDebts().told(0), 0);
    }

    private static void candleAnew() {
        of(2, "A CANDLE (anew: not LIT, TRIMMED 0, JOINED with none): which WAX it had.");
        CandleDebts x = Streets.lit(0b11, 30);
        x.candle(2, 30, 0, 1, 5);
        Streets.done(x, "b>cb^b^.");
        due("what burnt is gone", x.candle(1, 7, 4, 3, 2), 29);
        due("not LIT", x.told(111), 0);
        due("the others are LIT", x.told(1), 5);
        due("TRIMMED 0", x.told(112), 0);
        due("JOINED with none", x.joined(1), 0);
        due("nor is what was JOINED with it", x.joined(2), 0);
        int[] wants = {7, 0, 0, 0, 4, 3, 2, 1};
        for (int what = 0; what < 8; what++) {
            due("told(" + (110 + what) + ")", x.told(110 + what), wants[what]);
        }
        due("the same again", x.candle(1, 7, 4, 3, 2), 7);
        due("no match comes back", x.told(2), 18);
        Streets.done(x, "c-");
        due("snuffing the other one", x.told(1), 1);
    }

    private static void candleRefused() {
        of(2, "UNKNOWN: it, both ONES; OUTSIDE.");
        CandleDebts x = new CandleDebts();
        for (int c : NO_CANDLES) {
            due("candle " + c, x.candle(c, 1, 0, 0, 1), UNKNOWN);
        }
        for (int one : NO_ONES) {
            due("creditor " + one, x.candle(0, 1, one, 0, 1), UNKNOWN);
            due("debtor " + one, x.candle(0, 1, 0, one, 1), UNKNOWN);
        }
        for (int bad : notUpTo(999)) {
            due("WAX " + bad, x.candle(0, bad, 0, 0, 1), OUTSIDE);
            due("SUM " + bad, x.candle(0, 1, 0, 0, bad), OUTSIDE);
        }
        due("still without WAX", x.told(100), 0);
    }

    private static void draughtRefused() {
        of(3, "UNKNOWN; OUTSIDE.");
        CandleDebts x = new CandleDebts();
        for (int c : NO_CANDLES) {
            due("draught(" + c + ", 1)", x.draught(c, 1), UNKNOWN);
        }
        for (int bad : notUpTo(9)) {
            due("draught(0, " + bad + ")", x.draught(0, bad), OUTSIDE);
        }
        due("draught(0, 9)", x.draught(0, 9), 0);
        due("draught(0, 9) again", x.draught(0, 9), 9);
        due("draught(11, 0)", x.draught(11, 0), 0);
    }

    private static void purseRefused() {
        of(4, "UNKNOWN; OUTSIDE.");
        CandleDebts x = new CandleDebts();
        for (int one : NO_ONES) {
            due("purse(" + one + ", 1)", x.purse(one, 1), UNKNOWN);
        }
        for (int bad : notUpTo(9999)) {
            due("purse(0, " + bad + ")", x.purse(0, bad), OUTSIDE);
        }
        due("purse(0, 9999)", x.purse(0, 9999), 100);
        due("purse(0, 0)", x.purse(0, 0), 9999);
        due("purse(0, 0) again", x.purse(0, 0), 0);
    }

    private static void matchesRefused() {
        of(5, "MATCHES: how many there were. OUTSIDE.");
        CandleDebts x = new CandleDebts();
        for (int bad : notUpTo(99)) {
            due("matches(" + bad + ")", x.matches(bad), OUTSIDE);
        }
        due("matches(99)", x.matches(99), 20);
        due("matches(0)", x.matches(0), 99);
        due("matches(0) again", x.matches(0), 0);
    }

    private static void sayRefused() {
        of(6, "A sign more: how many. OUTSIDE; FULL.");
        CandleDebts x = new CandleDebts();
        for (int bad : new int[] {LEAST, -1, 0, 32, 127, MOST}) {
            due("say(" + bad + ")", x.say(bad), OUTSIDE);
        }
        for (int i = 1; i <= 60; i++) {
            due("sign " + i, x.say(i % 2 == 0 ? 33 : 126), i);
        }
        due("sign 61", x.say(33), FULL);
        due("still full", x.say(126), FULL);
        x.wipe();
        due("behind wipe()", x.say(33), 1);
    }

    private static void wipeOfAnEmptyPad() {
        of(7, "Signs go: how many there were.");
        CandleDebts x = new CandleDebts();
        due("of an empty PAD", x.wipe(), 0);
        x.say('m');
        due("of a fault", x.wipe(), 1);
        due("no fault is left", x.fault(), NONE);
        Streets.write(x, Streets.times(60, "."));
        due("of a full PAD", x.wipe(), 60);
        due("told(0)", x.told(0), 0);
        due("nothing is DONE", x.told(3), 0);
    }

    private static void faultOrNone() {
        of(8, "THE FAULT; NONE.");
        CandleDebts x = new CandleDebts();
        due("of an empty PAD", x.fault(), NONE);
        Streets.write(x, "a*b-c!d^e>f.wg7");
        due("of every kind", x.fault(), NONE);
        Streets.write(x, "a*b-c!d^e>f.wg");
        due("a sign less", x.fault(), 14);
        Streets.write(x, "a*b-c!d^e>f.wg77");
        due("a sign more", x.fault(), 15);
        Streets.write(x, "a>l");
        due("not beside each other is no fault", x.fault(), NONE);
        Streets.write(x, Streets.times(59, ".") + "l");
        due("of a full PAD", x.fault(), 60);
    }

    private static void judgeOrNone() {
        of(9, "JUDGED: the ACT (what = 0), why (1); NONE.");
        CandleDebts x = new CandleDebts();
        due("of an empty PAD, the ACT", x.judge(0), NONE);
        due("of an empty PAD, why", x.judge(1), NONE);
        Streets.write(x, "..");
        due("all can be, the ACT", x.judge(0), NONE);
        due("all can be, why", x.judge(1), NONE);
        Streets.write(x, "..wa0");
        due("the last can not, the ACT", x.judge(0), 2);
        due("the last can not, why", x.judge(1), 7);
        Streets.write(x, "a*..");
        due("the first can not, the ACT", x.judge(0), 0);
        due("the first can not, why", x.judge(1), 1);
    }

    private static void judgeRefused() {
        of(9, "OUTSIDE; NO: there is a FAULT.");
        CandleDebts x = new CandleDebts();
        for (int bad : notUpTo(1)) {
            due("judge(" + bad + ")", x.judge(bad), OUTSIDE);
        }
        Streets.write(x, "a");
        due("a FAULT, the ACT", x.judge(0), NO);
        due("a FAULT, why", x.judge(1), NO);
        Streets.write(x, "a*a");
        due("a FAULT behind an ACT that can not be", x.judge(0), NO);
    }

    private static void doneActs() {
        of(10, "NIGHTS on the PAD are DONE (it is empty then): ACTS.");
        CandleDebts x = new CandleDebts();
        due("of an empty PAD", x.done(), 0);
        due("of sixty ACTS", Streets.done(x, Streets.times(60, ".")), 60);
        due("told(0)", x.told(0), 0);
        due("told(3)", x.told(3), 60);
        due("of twenty ACTS", Streets.done(x, Streets.times(10, "wa1wa0")), 20);
        due("once only", x.done(), 0);
        due("the first sign anew", x.say('.'), 1);
    }

    private static void doneRefused() {
        of(10, "NO: there is a FAULT, or an ACT that can not be.");
        CandleDebts x = new CandleDebts();
        due("a FAULT", Streets.done(x, "..a"), NO);
        due("the PAD stays", x.told(0), 3);
        due("nothing is DONE", x.told(3), 0);
        due("an ACT that can not be", Streets.done(x, "..a*"), NO);
        due("the PAD stays", x.told(0), 4);
        due("nothing is DONE", x.told(3), 0);
        x.candle(0, 5, 0, 1, 5);
        due("it can be now", x.done(), 3);
    }

    private static void behindRefused() {
        of(11, "UNKNOWN; OUTSIDE; NO, as of done().");
        CandleDebts x = new CandleDebts();
        for (int c : NO_CANDLES) {
            due("behind(" + c + ", 0)", x.behind(c, 0), UNKNOWN);
        }
        for (int bad : notUpTo(3)) {
            due("behind(0, " + bad + ")", x.behind(0, bad), OUTSIDE);
        }
        for (String night : new String[] {"a", "a-", ".m", ".wa0"}) {
            Streets.write(x, night);
            for (int what = 0; what < 4; what++) {
                due("behind(11, " + what + ") of " + night, x.behind(11, what), NO);
            }
        }
    }

    private static void behindWhats() {
        of(11, "BEHIND: WAX (what = 0), LIT (1), the SUM (2), TRIMMED (3).");
        CandleDebts x = new CandleDebts();
        x.candle(11, 8, 0, 1, 50);
        Streets.write(x, "l*l^l^wl5.");
        int[] wants = {4, 1, 50, 2};
        for (int what = 0; what < 4; what++) {
            due("behind(11, " + what + ")", x.behind(11, what), wants[what]);
            due("behind(0, " + what + ")", x.behind(0, what), 0);
        }
    }

    private static void hasRefused() {
        of(12, "UNKNOWN; NO, likewise.");
        CandleDebts x = new CandleDebts();
        for (int one : NO_ONES) {
            due("has(" + one + ")", x.has(one), UNKNOWN);
        }
        due("has(5) of an empty PAD", x.has(5), 100);
        for (String night : new String[] {"a", "a-", ".m", ".wa0"}) {
            Streets.write(x, night);
            due("has(5) of " + night, x.has(5), NO);
        }
    }

    private static void thenWhats() {
        of(13, "BEHIND: LIT (what = 0), MATCHES (1), the minute (2), paid (3), the first ACT (4; NONE), which (5; NONE).");
        CandleDebts x = new CandleDebts();
        x.candle(0, 2, 0, 1, 30);
        x.candle(11, 1, 0, 1, 30);
        int[] before = {0, 20, 0, 0, NONE, NONE};
        for (int what = 0; what < 6; what++) {
            due("of an empty PAD, then(" + what + ")", x.then(what), before[what]);
        }
        Streets.write(x, "a*a!l*.");
        int[] behind = {1, 18, 1, 30, 3, 11};
        for (int what = 0; what < 6; what++) {
            due("then(" + what + ")", x.then(what), behind[what]);
        }
    }

    private static void thenRefused() {
        of(13, "OUTSIDE; NO, likewise.");
        CandleDebts x = new CandleDebts();
        for (int bad : notUpTo(5)) {
            due("then(" + bad + ")", x.then(bad), OUTSIDE);
        }
        for (String night : new String[] {"a", "a-", ".m", ".wa0"}) {
            Streets.write(x, night);
            for (int what = 0; what < 6; what++) {
                due("then(" + what + ") of " + night, x.then(what), NO);
            }
        }
    }

    private static void lastsRefused() {
        of(14, "LASTS. UNKNOWN.");
        CandleDebts x = new CandleDebts();
        for (int c : NO_CANDLES) {
            due("lasts(" + c + ")", x.lasts(c), UNKNOWN);
        }
        due("lasts(11)", x.lasts(11), 0);
    }

    private static void joinedWithoutItself() {
        of(15, "JOINED (without itself), as bits. UNKNOWN.");
        CandleDebts x = Streets.lit(0b1, 9);
        x.candle(1, 9, 0, 1, 5);
        due("with none", x.joined(0), 0);
        Streets.done(x, "a>b");
        due("joined(0)", x.joined(0), 2);
        due("joined(1)", x.joined(1), 1);
        for (int c : NO_CANDLES) {
            due("joined(" + c + ")", x.joined(c), UNKNOWN);
        }
        due("joined(11)", x.joined(11), 0);
    }

    private static void mayRefused() {
        of(16, "MAY, as bits. UNKNOWN.");
        CandleDebts x = Streets.lit(4095, 9);
        due("may(0)", x.may(0), 4095);
        due("may(5)", x.may(5), 0);
        for (int one : NO_ONES) {
            due("may(" + one + ")", x.may(one), UNKNOWN);
        }
    }

    private static void netRefused() {
        of(17, "NET, and 100000. UNKNOWN.");
        CandleDebts x = Streets.lit(4095, 9);
        due("net(0)", x.net(0), 100120);
        due("net(1)", x.net(1), 99880);
        due("net(5)", x.net(5), 100000);
        for (int one : NO_ONES) {
            due("net(" + one + ")", x.net(one), UNKNOWN);
        }
    }

    private static void roundOrNone() {
        of(18, "ROUND: minutes (what = 0), which way (1); NONE.");
        CandleDebts x = new CandleDebts();
        due("nothing to ask, minutes", x.round(0, 0), 0);
        due("nothing to ask, which way", x.round(0, 1), NONE);
        Streets.light(x, 2049, 12, 5);
        due("in time, minutes", x.round(0, 0), 11);
        due("in time, which way", x.round(0, 1), 1);
        due("in time from the other end, which way", x.round(11, 1), 0);
        due("too late, minutes", x.round(1, 0), NONE);
        due("too late, which way", x.round(1, 1), NONE);
    }

    private static void roundRefused() {
        of(18, "UNKNOWN: the window; OUTSIDE.");
        CandleDebts x = new CandleDebts();
        for (int c : NO_CANDLES) {
            due("round(" + c + ", 0)", x.round(c, 0), UNKNOWN);
        }
        for (int bad : notUpTo(1)) {
            due("round(11, " + bad + ")", x.round(11, bad), OUTSIDE);
        }
    }

    private static void accountsRefused() {
        of(19, "ACCOUNTS: how many (what = 0), which (1). OUTSIDE.");
        CandleDebts x = Streets.lit(2048, 99);
        due("accounts(99, 0)", x.accounts(99, 0), 1);
        due("accounts(99, 1)", x.accounts(99, 1), 2048);
        due("accounts(1, 1)", x.accounts(1, 1), 2048);
        for (int bad : new int[] {LEAST, -1, 0, 100, MOST}) {
            due("accounts(" + bad + ", 1)", x.accounts(bad, 1), OUTSIDE);
        }
        for (int bad : notUpTo(1)) {
            due("accounts(1, " + bad + ")", x.accounts(1, bad), OUTSIDE);
        }
    }

    private static void jubileeRefused() {
        of(20, "JUBILEE; NONE. OUTSIDE: the set 0 to 4095.");
        CandleDebts x = new CandleDebts();
        due("jubilee(0)", x.jubilee(0), 0);
        due("jubilee(4095)", x.jubilee(4095), NONE);
        due("jubilee(2048)", x.jubilee(2048), NONE);
        for (int bad : notUpTo(4095)) {
            due("jubilee(" + bad + ")", x.jubilee(bad), OUTSIDE);
        }
        Streets.light(x, 4095, 9, 5);
        due("jubilee(4095), LIT", x.jubilee(4095), 0);
    }

    private static void trimsRefused() {
        of(21, "TRIMS; NONE. UNKNOWN; OUTSIDE.");
        CandleDebts x = new CandleDebts();
        x.candle(11, 999, 0, 1, 5);
        x.draught(11, 9);
        due("trims(11, 1)", x.trims(11, 1), 0);
        due("trims(11, 999)", x.trims(11, 999), 9);
        due("trims(0, 999)", x.trims(0, 999), NONE);
        for (int c : NO_CANDLES) {
            due("trims(" + c + ", 1)", x.trims(c, 1), UNKNOWN);
        }
        for (int bad : new int[] {LEAST, -1, 0, 1000, MOST}) {
            due("trims(11, " + bad + ")", x.trims(11, bad), OUTSIDE);
        }
    }

    private static void seenRefused() {
        of(22, "A SIGHT more: how many. UNKNOWN; OUTSIDE; FULL.");
        CandleDebts x = new CandleDebts();
        for (int c : NO_CANDLES) {
            due("seen(" + c + ", 0)", x.seen(c, 0), UNKNOWN);
        }
        for (int bad : notUpTo(999)) {
            due("seen(0, " + bad + ")", x.seen(0, bad), OUTSIDE);
        }
        for (int i = 1; i <= 8; i++) {
            due("SIGHT " + i, x.seen(i % 2 == 0 ? 0 : 11, i % 2 == 0 ? 0 : 999), i);
        }
        due("SIGHT 9", x.seen(0, 0), FULL);
        x.forget();
        due("behind forget()", x.seen(0, 0), 1);
    }

    private static void forgetNone() {
        of(23, "SIGHTS go: how many there were.");
        CandleDebts x = new CandleDebts();
        due("of none", x.forget(), 0);
        for (int i = 0; i < 8; i++) {
            x.seen(0, 1);
        }
        due("none fits", x.sneezes(-1), 0);
        due("of eight", x.forget(), 8);
        due("told(4)", x.told(4), 0);
        due("all fit", x.sneezes(-1), 2928);
    }

    private static void sneezesOrNone() {
        of(24, "SNEEZES: how many (i = -1), the i-th; NONE.");
        CandleDebts x = new CandleDebts();
        due("how many", x.sneezes(-1), 2928);
        due("the first", x.sneezes(0), 0);
        due("the last", x.sneezes(2927), 11603);
        for (int i : new int[] {LEAST, -2, 2928, MOST}) {
            due("sneezes(" + i + ")", x.sneezes(i), NONE);
        }
        x.seen(0, 1);
        due("of none, how many", x.sneezes(-1), 0);
        due("of none, the first", x.sneezes(0), NONE);
    }

    private static void lookOrNone() {
        of(25, "LOOK: the CANDLE (what = 0), how many (1); NONE: there are no SNEEZES. OUTSIDE.");
        CandleDebts x = new CandleDebts();
        due("look(0)", x.look(0), 0);
        due("look(1)", x.look(1), 2928);
        x.candle(11, 2, 0, 1, 5);
        due("look(0)", x.look(0), 11);
        due("look(1)", x.look(1), 2908);
        x.seen(0, 1);
        due("no SNEEZES, look(0)", x.look(0), NONE);
        due("no SNEEZES, look(1)", x.look(1), NONE);
        for (int bad : notUpTo(1)) {
            due("look(" + bad + ")", x.look(bad), OUTSIDE);
        }
        x.forget();
        x.candle(0, 9, 0, 1, 5);
        x.seen(0, 4);
        x.candle(1, 9, 0, 1, 5);
        x.seen(1, 9);
        due("one is left", x.sneezes(-1), 1);
        due("one is left, look(0)", x.look(0), 0);
        due("one is left, look(1)", x.look(1), 1);
    }

    private static void snuffOrNone() {
        of(26, "SNUFF: whether (what = 0), which (1; NONE). OUTSIDE.");
        CandleDebts x = new CandleDebts();
        due("none is LIT, whether", x.snuff(0), 0);
        due("none is LIT, which", x.snuff(1), NONE);
        Streets.light(x, 2048, 9, 5);
        due("the last one, whether", x.snuff(0), 1);
        due("the last one, which", x.snuff(1), 11);
        Streets.light(x, 1, 9, 5);
        due("he can not win, whether", x.snuff(0), 0);
        due("he can not win, which", x.snuff(1), NONE);
        for (int bad : notUpTo(1)) {
            due("snuff(" + bad + ")", x.snuff(bad), OUTSIDE);
        }
    }

    private static void mothsOfOneOrTheMean() {
        of(27, "MOTHS: of a CANDLE; the mean (candle = -1).");
        CandleDebts x = Streets.lit(2049, 9);
        due("of a, upper", x.moths(0, 5, 1, 0), 1);
        due("of l, lower", x.moths(11, 5, 1, 1), 2);
        due("the mean, upper", x.moths(-1, 5, 1, 0), 1);
        due("the mean, lower", x.moths(-1, 5, 1, 1), 1);
        due("the mean of none", new CandleDebts().moths(-1, 5, 1, 0), 0);
    }

    private static void mothsRefused() {
        of(27, "UNKNOWN: it is not LIT; OUTSIDE.");
        CandleDebts x = Streets.lit(2049, 9);
        x.candle(5, 9, 0, 1, 5);
        for (int c : new int[] {LEAST, -2, 1, 5, 10, 12, MOST}) {
            due("moths(" + c + ", 1, 1, 0)", x.moths(c, 1, 1, 0), LOST + UNKNOWN);
        }
        for (int c : new int[] {-1, 0, 11}) {
            for (int bad : notUpTo(10)) {
                due("moths(" + c + ", " + bad + ", 1, 0)", x.moths(c, bad, 1, 0), LOST + OUTSIDE);
            }
            for (int bad : notUpTo(15)) {
                due("moths(" + c + ", 1, " + bad + ", 0)", x.moths(c, 1, bad, 0), LOST + OUTSIDE);
            }
            for (int bad : notUpTo(1)) {
                due("moths(" + c + ", 1, 1, " + bad + ")", x.moths(c, 1, 1, bad), LOST + OUTSIDE);
            }
        }
        Streets.done(x, Streets.times(9, "."));
        due("burnt out", x.moths(0, 0, 0, 0), LOST + UNKNOWN);
    }

    private static void shipRefused() {
        of(28, "SHIP. OUTSIDE.");
        CandleDebts x = new CandleDebts();
        for (int bad : new int[] {LEAST, -1, 0, 10, MOST}) {
            due("ship(" + bad + ", 1, 1, 0)", x.ship(bad, 1, 1, 0), LOST + OUTSIDE);
        }
        for (int bad : notUpTo(99)) {
            due("ship(1, " + bad + ", 1, 0)", x.ship(1, bad, 1, 0), LOST + OUTSIDE);
            due("ship(1, 1, " + bad + ", 0)", x.ship(1, 1, bad, 0), LOST + OUTSIDE);
        }
        for (int bad : notUpTo(1)) {
            due("ship(1, 1, 1, " + bad + ")", x.ship(1, 1, 1, bad), LOST + OUTSIDE);
        }
        due("ship(9, 0, 0, 0)", x.ship(9, 0, 0, 0), 1);
        due("ship(1, 99, 99, 1)", x.ship(1, 99, 99, 1), 101);
    }

    private static void yearRefused() {
        of(29, "A YEAR: paid (what = 0), WAX (1), how many (2). OUTSIDE.");
        CandleDebts x = Streets.lit(0b1, 9);
        // 8 draws 674: a is asked
        int[] wants = {10, 9, 1};
        for (int what = 0; what < 3; what++) {
            due("year(8, 1, " + what + ")", x.year(8, 1, what), wants[what]);
        }
        for (int bad : notUpTo(9999)) {
            due("year(" + bad + ", 1, 0)", x.year(bad, 1, 0), OUTSIDE);
        }
        for (int bad : new int[] {LEAST, -1, 0, 100, MOST}) {
            due("year(1, " + bad + ", 0)", x.year(1, bad, 0), OUTSIDE);
        }
        for (int bad : notUpTo(2)) {
            due("year(1, 1, " + bad + ")", x.year(1, 1, bad), OUTSIDE);
        }
    }

    private static void imageRefused() {
        of(30, "All but the PAD is kept in an IMAGE (0, 1): 1. OUTSIDE.");
        CandleDebts x = Streets.lit(0b1, 9);
        Streets.write(x, "a-");
        due("image(0)", x.image(0), 1);
        due("the PAD stays", x.told(0), 2);
        x.done();
        due("image(1)", x.image(1), 1);
        for (int bad : notUpTo(1)) {
            due("image(" + bad + ")", x.image(bad), OUTSIDE);
        }
        due("restore(0)", x.restore(0), 1);
        due("what 0 keeps", x.told(1), 1);
        due("the PAD is not kept", x.told(0), 0);
        due("restore(1)", x.restore(1), 1);
        due("what 1 keeps", x.told(1), 0);
        x.matches(7);
        due("image(0) again", x.image(0), 1);
        x.matches(8);
        x.restore(0);
        due("what 0 keeps now", x.told(2), 7);
    }

    private static void restoreAll() {
        of(31, "It is as it was when it was kept: 1.");
        CandleDebts x = Streets.lit(0b100000000001, 30);
        x.candle(10, 20, 4, 5, 60);
        x.draught(10, 2);
        x.seen(0, 3);
        x.purse(3, 33);
        Streets.done(x, "l>k.k^a!");
        String ahead = Streets.all(x);
        due("image(1)", x.image(1), 1);
        for (int c = 0; c < 12; c++) {
            x.candle(c, 5, 2, 3, 1);
            x.draught(c, 7);
        }
        for (int one = 0; one < 6; one++) {
            x.purse(one, 1);
        }
        x.seen(1, 1);
        x.matches(50);
        Streets.done(x, "b*b>cc^..");
        due("restore(1)", x.restore(1), 1);
        doc.same("all", Streets.all(x), ahead);
        x.matches(3);
        due("restore(1) again", x.restore(1), 1);
        doc.same("all", Streets.all(x), ahead);
    }

    /** What was kept is not changed by what is done behind keeping or behind restoring it. */
    private static void restoreStands() {
        of(31, "as it was when it was kept");
        CandleDebts x = Streets.lit(0b1, 30);
        x.candle(1, 30, 0, 1, 5);
        x.seen(0, 3);
        x.image(0);
        Streets.done(x, "a>bwa3a^a!..");
        x.forget();
        x.seen(5, 9);
        x.restore(0);
        String kept = Streets.all(x);
        Streets.done(x, "a>bwa3a^a!..");
        x.forget();
        x.seen(5, 9);
        x.restore(0);
        doc.same("all", Streets.all(x), kept);
        due("the SIGHTS are those", x.sneezes(0), 30);
    }

    private static void restoreRefused() {
        of(31, "OUTSIDE; STATE: it was not.");
        CandleDebts x = new CandleDebts();
        for (int bad : notUpTo(1)) {
            due("restore(" + bad + ")", x.restore(bad), OUTSIDE);
        }
        due("restore(0)", x.restore(0), STATE);
        due("restore(1)", x.restore(1), STATE);
        x.image(1);
        due("restore(0), 1 was kept", x.restore(0), STATE);
        due("restore(1), it was kept", x.restore(1), 1);
        x = new CandleDebts();
        x.image(0);
        due("restore(1), 0 was kept", x.restore(1), STATE);
        due("restore(0), it was kept", x.restore(0), 1);
    }

    private static void toldOfAll() {
        of(32, "0 signs, 1 LIT (bits), 2 MATCHES, 3 the minute, 4 SIGHTS; 10 and a ONE: PURSE");
        CandleDebts x = Streets.lit(0b110000000000, 9);
        x.seen(0, 0);
        x.seen(0, 0);
        x.purse(0, 11);
        x.purse(5, 0);
        Streets.done(x, "...");
        Streets.write(x, "lm#~");
        int[] whats = {0, 1, 2, 3, 4, 10, 11, 12, 13, 14, 15};
        int[] wants = {4, 3072, 18, 3, 2, 11, 100, 100, 100, 100, 0};
        for (int i = 0; i < whats.length; i++) {
            due("told(" + whats[i] + ")", x.told(whats[i]), wants[i]);
        }
    }

    private static void toldOfCandles() {
        of(32, "100 and 10 times a CANDLE and 0 WAX, 1 LIT (1, 0), 2 TRIMMED, 3 DRAUGHT, 4 CREDITOR, 5 DEBTOR, 6 the SUM, 7 BURN.");
        CandleDebts x = new CandleDebts();
        x.candle(0, 12, 5, 4, 321);
        x.candle(11, 34, 2, 3, 123);
        x.draught(0, 8);
        x.draught(11, 1);
        Streets.done(x, "a^a^l*");
        int[] first = {12, 0, 2, 8, 5, 4, 321, 7};
        int[] last = {34, 1, 0, 1, 2, 3, 123, 2};
        for (int what = 0; what < 8; what++) {
            due("told(" + (100 + what) + ")", x.told(100 + what), first[what]);
            due("told(" + (210 + what) + ")", x.told(210 + what), last[what]);
        }
    }

    private static void toldRefused() {
        of(32, "7 BURN. OUTSIDE.");
        CandleDebts x = new CandleDebts();
        for (int bad : new int[] {LEAST, -100, -10, -1, 5, 6, 9, 16, 17, 99, 220, 221, 1000, MOST}) {
            due("told(" + bad + ")", x.told(bad), OUTSIDE);
        }
        for (int c = 0; c < 12; c++) {
            due("told(" + (108 + 10 * c) + ")", x.told(108 + 10 * c), OUTSIDE);
            due("told(" + (109 + 10 * c) + ")", x.told(109 + 10 * c), OUTSIDE);
        }
    }

    private static void firstHalf() {
        newObject();
        candleAnew();
        candleRefused();
        draughtRefused();
        purseRefused();
        matchesRefused();
        sayRefused();
        wipeOfAnEmptyPad();
        faultOrNone();
        judgeOrNone();
        judgeRefused();
        doneActs();
        doneRefused();
        behindWhats();
        behindRefused();
        hasRefused();
        thenWhats();
        thenRefused();
        lastsRefused();
        joinedWithoutItself();
        mayRefused();
        netRefused();
    }

    private static void secondHalf() {
        roundOrNone();
        roundRefused();
        accountsRefused();
        jubileeRefused();
        trimsRefused();
        seenRefused();
        forgetNone();
        sneezesOrNone();
        lookOrNone();
        snuffOrNone();
        mothsOfOneOrTheMean();
        mothsRefused();
        shipRefused();
        yearRefused();
        imageRefused();
        restoreAll();
        restoreStands();
        restoreRefused();
        toldOfAll();
        toldOfCandles();
        toldRefused();
    }

    public static void main(String[] args) throws IOException {
        doc = new Sentences();
        firstHalf();
        secondHalf();
        for (int promise = 1; promise <= 32; promise++) {
            doc.allQuoted("Promise " + promise, "", "");
        }
        doc.end();
    }
}
