import java.io.IOException;

/**
 * Each sentence of the document's Terms on the PAD, the ACTS, why one can not be, and NIGHTS JUDGED,
 * DONE or looked at from behind, that names a boundary case: a test of its own, with the sentence
 * quoted in of(..).
 */
public final class BoundaryActsTest {
    private static final int NONE = -6, OUTSIDE = -2, FULL = -4;
    private static final int LEAST = Integer.MIN_VALUE, MOST = Integer.MAX_VALUE;
    private static Sentences doc;

    private static void of(String sentence) {
        doc.of("Terms 1", sentence);
    }

    private static void due(String call, long got, long want) {
        doc.due(call, got, want);
    }

    private static void canNot(CandleDebts x, String night, int act, int why) {
        Streets.write(x, night);
        due("judge(0) of " + night, x.judge(0), act);
        due("judge(1) of " + night, x.judge(1), why);
    }

    private static void can(CandleDebts x, String night) {
        canNot(x, night, NONE, NONE);
    }

    private static void faultOf(CandleDebts x, String night, int place) {
        Streets.write(x, night);
        due("fault() of " + night, x.fault(), place);
    }

    // ---- 1 the PAD and its ACTS

    private static void pads() {
        of("NIGHTS are a text on a PAD (60 SIGNS at most, codes 33 to 126) of ACTS");
        CandleDebts x = new CandleDebts();
        for (int sign : new int[] {LEAST, -1, 0, 10, 32, 127, 128, 256 + '.', MOST}) {
            due("say(" + sign + ")", x.say(sign), OUTSIDE);
        }
        due("say(33)", x.say(33), 1);
        due("say(126)", x.say(126), 2);
        for (int i = 3; i <= 60; i++) {
            due("sign " + i, x.say('.'), i);
        }
        due("sign 61", x.say('.'), FULL);
        due("told(0)", x.told(0), 60);
        Streets.write(x, Streets.times(60, "."));
        due("sixty ACTS", x.done(), 60);
        due("told(3)", x.told(3), 60);
    }

    private static void byMatch() {
        of("* (it is LIT by one of the MATCHES; it is JOINED with none any more)");
        CandleDebts x = new CandleDebts();
        x.candle(0, 9, 0, 1, 5);
        x.candle(1, 9, 0, 1, 5);
        x.candle(2, 9, 0, 1, 5);
        Streets.done(x, "a*a>bb>cc-");
        due("told(2)", x.told(2), 19);
        due("still JOINED", x.joined(1), 5);
        Streets.done(x, "b*");
        due("one of the MATCHES", x.told(2), 18);
        due("LIT, alone", x.told(1), 2);
        due("JOINED with none", x.joined(1), 0);
        due("the others are JOINED still", x.joined(0), 4);
        due("the others are JOINED still", x.joined(2), 1);
        Streets.done(x, "b-");
        Streets.done(x, "c*a*");
        due("JOINED with none", x.joined(0), 0);
        due("JOINED with none", x.joined(2), 0);
    }

    private static void snuffed() {
        of("- (it is snuffed: it, and all that are JOINED with it, are not LIT any more)");
        CandleDebts x = Streets.lit(0b1001, 9);
        x.candle(1, 9, 0, 1, 5);
        x.candle(2, 9, 0, 1, 5);
        Streets.done(x, "a>bb-");
        due("it and the JOINED one; not what is beside", x.told(1), 8);
        due("the WAX stays", x.told(110), 9);
        due("the SUM stays", x.told(116), 5);
        due("no match is used", x.told(2), 18);
        Streets.done(x, "d>cc>bb-");
        due("those JOINED through another, and what went out ahead", x.told(1), 0);
    }

    private static void asked() {
        of("! (its DEBTOR is asked: he pays as much of the SUM as his PURSE has to the CREDITOR)");
        int[] purses = {0, 1, 49, 50, 51, 9999};
        int[] paid = {0, 1, 49, 50, 50, 50};
        for (int i = 0; i < purses.length; i++) {
            CandleDebts x = new CandleDebts();
            x.candle(0, 9, 4, 5, 50);
            x.purse(5, purses[i]);
            Streets.write(x, "a*a!");
            due("then(3), PURSE " + purses[i], x.then(3), paid[i]);
            due("done(), PURSE " + purses[i], x.done(), 2);
            due("the SUM, PURSE " + purses[i], x.told(106), 50 - paid[i]);
            due("the DEBTOR, PURSE " + purses[i], x.told(15), purses[i] - paid[i]);
            due("the CREDITOR, PURSE " + purses[i], x.told(14), 100 + paid[i]);
        }
    }

    private static void trimmedOnceMore() {
        of("^ (it is TRIMMED once more)");
        CandleDebts x = new CandleDebts();
        x.draught(0, 2);
        due("without WAX, not LIT", Streets.done(x, "a^"), 1);
        due("told(102)", x.told(102), 1);
        due("BURN", x.told(107), 2);
        due("again", Streets.done(x, "a^a^"), 2);
        due("told(102)", x.told(102), 3);
        due("BURN", x.told(107), 1);
    }

    private static void litFrom() {
        of("> and the letter of one beside it (that one is LIT from it: both are JOINED, and what is JOINED with either)");
        CandleDebts x = Streets.lit(0b100000000001, 9);
        x.candle(1, 9, 0, 1, 5);
        x.candle(10, 9, 0, 1, 5);
        due("east of the first, west of the last", Streets.done(x, "a>bl>k"), 2);
        due("LIT", x.told(1), 0b110000000011);
        due("no match is used", x.told(2), 18);
        due("JOINED", x.joined(0), 2);
        x = new CandleDebts();
        for (int c = 0; c < 6; c++) {
            x.candle(c, 9, 0, 1, 5);
        }
        Streets.done(x, "a*a>bb>cc-d*d>ee>f");
        due("ahead of it", x.joined(2), 0b000011);
        Streets.done(x, "d>c");
        for (int c = 0; c < 6; c++) {
            due("with either, " + c, x.joined(c), 0b111111 & ~(1 << c));
        }
        due("only that one is LIT", x.told(1), 0b111100);
    }

    private static void draughtIs() {
        of("w, a CANDLE's letter and a digit (the DRAUGHT there is that)");
        CandleDebts x = new CandleDebts();
        due("done()", Streets.done(x, "wa9wl1wl0"), 3);
        due("told(103)", x.told(103), 9);
        due("told(213)", x.told(213), 0);
        due("the others", x.told(113), 0);
    }

    private static void minuteActs() {
        of(". (a minute: of each that is LIT the WAX is BURN less; what has none then goes out: its SUM is 0)");
        for (int wax = 1; wax <= 5; wax++) {
            CandleDebts x = Streets.lit(0b10, wax);
            x.draught(1, 3);
            due("done(), WAX " + wax, Streets.done(x, "."), 1);
            due("the WAX of " + wax, x.told(110), wax == 5 ? 1 : 0);
            due("LIT, WAX " + wax, x.told(111), wax == 5 ? 1 : 0);
            due("the SUM, WAX " + wax, x.told(116), wax == 5 ? 10 : 0);
        }
        CandleDebts x = new CandleDebts();
        x.candle(0, 1, 0, 1, 5);
        x.candle(1, 0, 0, 1, 5);
        Streets.done(x, ".");
        due("not LIT: its WAX", x.told(100), 1);
        due("not LIT: its SUM", x.told(106), 5);
        due("not LIT, without WAX: its SUM", x.told(116), 5);
        due("the PURSES stay", x.told(11), 100);
    }

    private static void firstSignThatCanNotStand() {
        of("THE FAULT: the place (from 0 on) of the first sign that can not stand there");
        CandleDebts x = new CandleDebts();
        for (String sign : new String[] {"*", "-", "!", "^", ">", "0", "9", "m", "v", "x", "A", "L", "~", "/"}) {
            faultOf(x, sign, 0);
            faultOf(x, "." + sign + "*", 1);
        }
        for (String sign : new String[] {".", "w", "a", "0", "+", "<", "?", "="}) {
            faultOf(x, "a" + sign, 1);
            faultOf(x, "l*b" + sign + "*", 3);
        }
        for (String sign : new String[] {"m", "w", ".", "*", ">", "`", "B"}) {
            faultOf(x, "a>" + sign, 2);
            faultOf(x, "w" + sign + "0", 1);
        }
        for (String sign : new String[] {"a", "/", ":", "."}) {
            faultOf(x, "wa" + sign, 2);
        }
    }

    private static void theFirstOfTwoFaults() {
        of("the first sign that can not stand there; the number of signs, if more must come.");
        CandleDebts x = new CandleDebts();
        faultOf(x, "", NONE);
        faultOf(x, "a", 1);
        faultOf(x, "a>", 2);
        faultOf(x, "w", 1);
        faultOf(x, "wl", 2);
        faultOf(x, "a*w", 3);
        faultOf(x, "mm", 0);
        faultOf(x, "a*xa", 2);
        faultOf(x, Streets.times(59, ".") + "a", 60);
        faultOf(x, Streets.times(58, ".") + "wa", 60);
        faultOf(x, Streets.times(58, ".") + "l>", 60);
        faultOf(x, Streets.times(59, ".") + "*", 59);
        faultOf(x, Streets.times(57, ".") + "a>l", NONE);
        faultOf(x, Streets.times(60, "."), NONE);
    }

    // ---- 1 why an ACT can not be

    /** a and b with WAX, c without any; none is LIT. */
    private static CandleDebts three() {
        CandleDebts x = new CandleDebts();
        x.candle(0, 9, 0, 1, 50);
        x.candle(1, 9, 2, 3, 50);
        x.candle(2, 0, 4, 5, 50);
        x.candle(3, 9, 4, 5, 50);
        return x;
    }

    private static void theLeastReason() {
        of("An ACT can not be for the least of these reasons");
        CandleDebts x = three();
        canNot(x, "b>c", 0, 1);
        canNot(x, "a*a>c", 1, 1);
        canNot(x, "a>d", 0, 2);
        canNot(x, "a*d*a>d", 2, 2);
        x.matches(0);
        canNot(x, "c*", 0, 1);
        canNot(x, "a*", 0, 3);
        x.matches(1);
        canNot(x, "a*a*", 1, 2);
        x.purse(2, 9999);
        canNot(x, "b!", 0, 2);
        x.candle(1, 9, 2, 3, 0);
        canNot(x, "b!", 0, 2);
        canNot(x, "b*b!", 1, 5);
    }

    private static void reason1() {
        of("1 it has no WAX (*, the second one >)");
        CandleDebts x = three();
        canNot(x, "c*", 0, 1);
        canNot(x, "b*b>c", 1, 1);
        canNot(x, "c>c", 0, 1);
        x.candle(2, 1, 4, 5, 50);
        can(x, "c*");
        can(x, "b*b>c");
        canNot(x, "c*.c*", 2, 1);
        canNot(x, "c*.b*b>c", 3, 1);
        x.candle(2, 0, 4, 5, 50);
        canNot(x, "c>b", 0, 2);
    }

    private static void reason2Lit() {
        of("2 it is LIT already (*, the second one >)");
        CandleDebts x = three();
        canNot(x, "a*a*", 1, 2);
        canNot(x, "a*b*a>b", 2, 2);
        canNot(x, "a*a>bb>a", 2, 2);
        canNot(x, "a*a>a", 1, 2);
        can(x, "a*a-a*");
        can(x, "a*b*b-a>b");
    }

    private static void reason2NotLit() {
        of("is not LIT (-, !, the first one >)");
        CandleDebts x = three();
        canNot(x, "a-", 0, 2);
        canNot(x, "a!", 0, 2);
        canNot(x, "a>b", 0, 2);
        canNot(x, "a>a", 0, 2);
        canNot(x, "a*a-a-", 2, 2);
        canNot(x, "a*a>ba-b-", 3, 2);
        can(x, "a*a-");
        can(x, "a*a!");
        can(x, "a*a>b");
        can(x, "a^");
        canNot(x, "a*.........a-", 10, 2);
        canNot(x, "a*.........a!", 10, 2);
        canNot(x, "a*.........a>b", 10, 2);
        can(x, "a*........a>b");
    }

    private static void reason3() {
        of("3 there are no MATCHES (*)");
        CandleDebts x = three();
        x.matches(0);
        canNot(x, "a*", 0, 3);
        x.matches(1);
        can(x, "a*");
        can(x, "a*a>b");
        canNot(x, "a*b*", 1, 3);
        x.matches(2);
        can(x, "a*b*");
    }

    private static void reason4() {
        of("4 both are not beside each other (>)");
        CandleDebts x = Streets.lit(0b100000100001, 9);
        for (int c = 0; c < 12; c++) {
            if (x.told(100 + 10 * c) == 0) {
                x.candle(c, 9, 0, 1, 5);
            }
        }
        can(x, "f>e");
        can(x, "f>g");
        canNot(x, "f>d", 0, 4);
        canNot(x, "f>h", 0, 4);
        can(x, "a>b");
        canNot(x, "a>c", 0, 4);
        canNot(x, "a>k", 0, 4);
        can(x, "l>k");
        canNot(x, "l>j", 0, 4);
        canNot(x, "l>b", 0, 4);
        Streets.done(x, "l-");
        canNot(x, "a>l", 0, 4);
    }

    private static void reason5Trimmed() {
        of("5 it is TRIMMED 9 times (^)");
        CandleDebts x = three();
        can(x, Streets.times(9, "a^"));
        canNot(x, Streets.times(10, "a^"), 9, 5);
        canNot(x, Streets.times(9, "c^") + "a^c^", 10, 5);
        Streets.done(x, Streets.times(9, "a^"));
        canNot(x, "a^", 0, 5);
        x.candle(0, 9, 0, 1, 50);
        can(x, "a^");
    }

    private static void reason5NoSum() {
        of("the SUM is 0 (!)");
        CandleDebts x = three();
        x.candle(0, 9, 0, 1, 0);
        canNot(x, "a*a!", 1, 5);
        x.candle(0, 9, 0, 1, 1);
        can(x, "a*a!");
        canNot(x, "a*a!a!", 2, 5);
        x.candle(0, 9, 0, 1, 100);
        canNot(x, "a*a!a!", 2, 5);
        x.candle(0, 9, 0, 1, 101);
        can(x, "a*a!a!a!");
    }

    private static void reason6() {
        of("6 the CREDITOR would have more than 9999 (!; by what would be paid)");
        CandleDebts x = three();
        x.purse(0, 9949);
        can(x, "a*a!");
        x.purse(0, 9950);
        canNot(x, "a*a!", 1, 6);
        x.purse(1, 49);
        can(x, "a*a!");
        x.purse(0, 9951);
        canNot(x, "a*a!", 1, 6);
        x.purse(0, 9999);
        x.purse(1, 1);
        canNot(x, "a*a!", 1, 6);
        x.purse(1, 0);
        can(x, "a*a!a!");
        x.candle(1, 9, 0, 0, 50);
        Streets.write(x, "b*b!");
        due("his own CREDITOR", x.judge(0), NONE);
        due("his own CREDITOR has", x.has(0), 9999);
    }

    private static void reason7() {
        of("7 the DRAUGHT is that already (w)");
        CandleDebts x = three();
        canNot(x, "wa0", 0, 7);
        can(x, "wa9");
        canNot(x, "wa9wa9", 1, 7);
        can(x, "wa9wa0wa9");
        x.draught(0, 9);
        canNot(x, "wa9", 0, 7);
        can(x, "wa8");
        canNot(x, "wl0", 0, 7);
    }

    /** No object comes to minute 999 in 512 calls; the sentence is held to all the same. */
    private static void reason8() {
        of("8 it is minute 999 (.).");
        CandleDebts x = new CandleDebts();
        for (int i = 0; i < 16; i++) {
            due("done()", Streets.done(x, Streets.times(60, ".")), 60);
        }
        canNot(x, Streets.times(40, "."), 39, 8);
        due("to minute 998", Streets.done(x, Streets.times(38, ".")), 38);
        can(x, ".");
        due("to minute 999", Streets.done(x, "."), 1);
        due("told(3)", x.told(3), 999);
        canNot(x, ".", 0, 8);
        x.candle(0, 9, 0, 1, 5);
        can(x, "a*");
        Streets.done(x, "a*");
        // seed 874 draws a minute
        due("a year has no minute more", x.year(874, 1, 1), 9);
    }

    // ---- 2 NIGHTS

    private static void judged() {
        doc.of("Terms 2", "JUDGED: of NIGHTS the first ACT (from 0 on) that can not be, and why.");
        CandleDebts x = three();
        canNot(x, "c*", 0, 1);
        canNot(x, "c*a-wa0", 0, 1);
        canNot(x, "a*.wa3a^a!c*a*", 5, 1);
        canNot(x, Streets.times(57, ".") + "wa0", 57, 7);
        can(x, "");
        can(x, Streets.times(60, "."));
        due("nothing is DONE", x.told(3), 0);
    }

    private static void done() {
        doc.of("Terms 2", "DONE: all is so then.");
        CandleDebts x = three();
        Streets.write(x, "wb1a*a>bb^..b!");
        int[] behind = {x.behind(0, 0), x.behind(1, 0), x.then(0), x.then(1), x.then(2), x.has(2), x.has(3)};
        due("done()", x.done(), 7);
        int[] whats = {100, 110, 1, 2, 3, 12, 13};
        int[] wants = {7, 7, 3, 19, 2, 150, 50};
        for (int i = 0; i < whats.length; i++) {
            due("behind it, " + whats[i], behind[i], wants[i]);
            due("told(" + whats[i] + ")", x.told(whats[i]), wants[i]);
        }
        due("joined(0)", x.joined(0), 2);
        due("of an empty PAD", x.done(), 0);
        due("nothing more is DONE", x.told(3), 2);
    }

    private static void behind() {
        doc.of("Terms 2", "BEHIND, likewise, not being DONE: of a CANDLE WAX, LIT (1, 0), the SUM, TRIMMED; the PURSE of a ONE");
        CandleDebts x = three();
        Streets.write(x, "a*a!a^.d*.........");
        String ahead = Streets.all(x);
        int[] first = {0, 0, 0, 1};
        int[] last = {0, 0, 0, 0};
        for (int what = 0; what < 4; what++) {
            due("behind(0, " + what + ")", x.behind(0, what), first[what]);
            due("behind(3, " + what + ")", x.behind(3, what), last[what]);
        }
        due("behind(1, 2), not LIT", x.behind(1, 2), 50);
        due("has(0)", x.has(0), 150);
        due("has(1)", x.has(1), 50);
        doc.same("all", Streets.all(x), ahead);
    }

    private static void behindOfAll() {
        doc.of("Terms 2", "of all: which are LIT (bits), MATCHES, the minute, what was paid");
        CandleDebts x = three();
        int[] before = {0, 20, 0, 0};
        int[] behind = {9, 18, 1, 150};
        Streets.write(x, "");
        for (int what = 0; what < 4; what++) {
            due("of no ACT, then(" + what + ")", x.then(what), before[what]);
        }
        x.candle(3, 9, 4, 5, 200);
        Streets.write(x, "a*d*d!.a!");
        for (int what = 0; what < 4; what++) {
            due("then(" + what + ")", x.then(what), behind[what]);
        }
        Streets.write(x, "a*a!");
        x.done();
        Streets.write(x, ".");
        due("what was paid ahead of these NIGHTS is not told", x.then(3), 0);
        due("the minute goes on", x.then(2), 1);
    }

    private static void theFirstThatWentOut() {
        doc.of("Terms 2", "the first ACT behind which some CANDLE had gone out by itself, the least such (NONE).");
        CandleDebts x = new CandleDebts();
        x.candle(0, 3, 0, 1, 5);
        x.candle(4, 2, 0, 1, 5);
        x.candle(9, 2, 0, 1, 5);
        wentOut(x, "", NONE, NONE);
        wentOut(x, "a*.", NONE, NONE);
        wentOut(x, "e*.e-.", NONE, NONE);
        wentOut(x, "e*..", 2, 4);
        wentOut(x, "a*j*...", 3, 9);
        wentOut(x, "j*e*a*...", 4, 4);
        wentOut(x, "we9e*.j*..", 2, 4);
        wentOut(x, "a*...", 3, 0);
        wentOut(x, "a*.e*j*..", 5, 0);
        wentOut(x, "j*.e*.wa3.", 3, 9);
        Streets.done(x, "j*..");
        wentOut(x, "e*...", 2, 4);
        wentOut(x, ".", NONE, NONE);
    }

    private static void wentOut(CandleDebts x, String night, int act, int candle) {
        Streets.write(x, night);
        due("then(4) of " + night, x.then(4), act);
        due("then(5) of " + night, x.then(5), candle);
    }

    public static void main(String[] args) throws IOException {
        doc = new Sentences();
        pads();
        byMatch();
        snuffed();
        asked();
        trimmedOnceMore();
        litFrom();
        draughtIs();
        minuteActs();
        firstSignThatCanNotStand();
        theFirstOfTwoFaults();
        theLeastReason();
        reason1();
        reason2Lit();
        reason2NotLit();
        reason3();
        reason4();
        reason5Trimmed();
        reason5NoSum();
        reason6();
        reason7();
        reason8();
        judged();
        done();
        behind();
        behindOfAll();
        theFirstThatWentOut();
        doc.allQuoted("Terms 1", "NIGHTS are", "");
        doc.allQuoted("Terms 2", "", "LASTS, now");
        doc.end();
    }
}
