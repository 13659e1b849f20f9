import java.io.IOException;

/**
 * Each sentence of the document's Terms that names a boundary case, with a test of its own: the
 * line with of(..) quotes the sentence (Sentences looks it up in the document, and tells which
 * boundaries are quoted by none). Here: refusals, fractions, and what there is. ACTS and NIGHTS are
 * in BoundaryActsTest, what is reckoned in BoundaryReckoningsTest.
 */
public final class BoundaryTermsTest {
    private static final int NONE = -6, UNKNOWN = -1, OUTSIDE = -2, STATE = -3, FULL = -4, NO = -5;
    private static final long LOST = -1000000000000000000L;
    private static final int LEAST = Integer.MIN_VALUE, MOST = Integer.MAX_VALUE;
    private static Sentences doc;

    private static void of(String sentence) {
        doc.of("Terms 1", sentence);
    }

    private static void due(String call, long got, long want) {
        doc.due(call, got, want);
    }

    private static void canNot(CandleDebts x, String night, int act, int why) {
        Streets.write(x, night);
        due("judge(0) of " + night, x.judge(0), act);
        due("judge(1) of " + night, x.judge(1), why);
    }

    private static void can(CandleDebts x, String night) {
        canNot(x, night, NONE, NONE);
    }

    private static void faultOf(CandleDebts x, String night, int place) {
        Streets.write(x, night);
        due("fault() of " + night, x.fault(), place);
    }

    // ---- how long an object is used

    private static void callsOfAnObject() {
        doc.of("What it is", "An object is used for at most 512 calls after it has been made");
        CandleDebts x = new CandleDebts();
        for (int call = 1; call < 512; call++) {
            due("call " + call, x.matches(call % 100), call == 1 ? 20 : (call - 1) % 100);
        }
        due("the 512th call", x.told(2), 11);
    }

    // ---- refusals

    private static void theFirstRefusalThatFits() {
        doc.of("Terms", "Calls that are refused answer, the first of these that fits: UNKNOWN -1 (there is no such CANDLE, ONE),"
                + " OUTSIDE -2 (another number is not as told), NO -5 (as told), STATE -3 (as told), FULL -4.");
        unknownAheadOfOutside();
        unknownAndOutsideAheadOfNo();
        outsideAheadOfState();
        unknownAndOutsideAheadOfFull();
    }

    private static void unknownAheadOfOutside() {
        CandleDebts x = new CandleDebts();
        due("candle(12, 1000, 0, 0, 1000)", x.candle(12, 1000, 0, 0, 1000), UNKNOWN);
        due("candle(0, 1000, 6, 0, 0)", x.candle(0, 1000, 6, 0, 0), UNKNOWN);
        due("candle(0, 0, 0, 6, 1000)", x.candle(0, 0, 0, 6, 1000), UNKNOWN);
        due("draught(12, 10)", x.draught(12, 10), UNKNOWN);
        due("purse(6, 10000)", x.purse(6, 10000), UNKNOWN);
        due("behind(12, 4)", x.behind(12, 4), UNKNOWN);
        due("round(12, 2)", x.round(12, 2), UNKNOWN);
        due("trims(12, 0)", x.trims(12, 0), UNKNOWN);
        due("seen(12, 1000)", x.seen(12, 1000), UNKNOWN);
        due("moths(12, 11, 16, 2)", x.moths(12, 11, 16, 2), LOST + UNKNOWN);
        due("moths(0, 11, 16, 2), not LIT", x.moths(0, 11, 16, 2), LOST + UNKNOWN);
    }

    private static void unknownAndOutsideAheadOfNo() {
        CandleDebts x = new CandleDebts();
        for (String night : new String[] {"a", "a-"}) {
            Streets.write(x, night);
            due("behind(12, 0) of " + night, x.behind(12, 0), UNKNOWN);
            due("behind(0, 4) of " + night, x.behind(0, 4), OUTSIDE);
            due("behind(0, 0) of " + night, x.behind(0, 0), NO);
            due("has(6) of " + night, x.has(6), UNKNOWN);
            due("has(0) of " + night, x.has(0), NO);
            due("then(6) of " + night, x.then(6), OUTSIDE);
            due("then(0) of " + night, x.then(0), NO);
            due("judge(2) of " + night, x.judge(2), OUTSIDE);
        }
    }

    private static void outsideAheadOfState() {
        CandleDebts x = new CandleDebts();
        due("restore(2)", x.restore(2), OUTSIDE);
        due("restore(-1)", x.restore(-1), OUTSIDE);
        due("restore(1)", x.restore(1), STATE);
    }

    private static void unknownAndOutsideAheadOfFull() {
        CandleDebts x = new CandleDebts();
        Streets.write(x, Streets.times(60, "."));
        due("say(32)", x.say(32), OUTSIDE);
        due("say(33)", x.say(33), FULL);
        for (int i = 0; i < 8; i++) {
            x.seen(0, 0);
        }
        due("seen(12, 0)", x.seen(12, 0), UNKNOWN);
        due("seen(0, 1000)", x.seen(0, 1000), OUTSIDE);
        due("seen(0, 0)", x.seen(0, 0), FULL);
    }

    private static void refusedCallsChangeNothing() {
        doc.of("Terms", "They change nothing.");
        CandleDebts x = busy();
        Streets.write(x, "a");
        String ahead = Streets.all(x);
        refusedOfTheStreet(x);
        refusedOfQuestions(x);
        doc.same("all behind refused calls", Streets.all(x), ahead);
        due("restore(0) behind image(-1), image(2)", x.restore(0), STATE);
        due("restore(1) behind image(-1), image(2)", x.restore(1), STATE);
        refusedNights();
        refusedWhenFull();
    }

    /** Something everywhere, so that any change shows. */
    private static CandleDebts busy() {
        CandleDebts x = new CandleDebts();
        x.candle(0, 40, 1, 2, 30);
        x.candle(1, 50, 3, 4, 20);
        x.draught(1, 3);
        x.purse(5, 7);
        x.matches(9);
        x.seen(0, 4);
        Streets.done(x, "a*a>b.b^");
        return x;
    }

    private static void refusedOfTheStreet(CandleDebts x) {
        due("candle(12, ..)", x.candle(12, 1, 0, 0, 1), UNKNOWN);
        due("candle(-1, ..)", x.candle(-1, 1, 0, 0, 1), UNKNOWN);
        due("candle(0, 1, 6, 0, 1)", x.candle(0, 1, 6, 0, 1), UNKNOWN);
        due("candle(0, 1, 0, 6, 1)", x.candle(0, 1, 0, 6, 1), UNKNOWN);
        due("candle(0, 1000, 0, 0, 1)", x.candle(0, 1000, 0, 0, 1), OUTSIDE);
        due("candle(0, 1, 0, 0, 1000)", x.candle(0, 1, 0, 0, 1000), OUTSIDE);
        due("draught(0, 10)", x.draught(0, 10), OUTSIDE);
        due("purse(0, 10000)", x.purse(0, 10000), OUTSIDE);
        due("purse(6, 1)", x.purse(6, 1), UNKNOWN);
        due("matches(100)", x.matches(100), OUTSIDE);
        due("matches(-1)", x.matches(-1), OUTSIDE);
        due("say(32)", x.say(32), OUTSIDE);
        due("seen(0, 1000)", x.seen(0, 1000), OUTSIDE);
        due("seen(12, 1)", x.seen(12, 1), UNKNOWN);
        due("image(2)", x.image(2), OUTSIDE);
        due("image(-1)", x.image(-1), OUTSIDE);
        due("restore(0)", x.restore(0), STATE);
        due("restore(2)", x.restore(2), OUTSIDE);
        due("done() of a fault", x.done(), NO);
    }

    private static void refusedOfQuestions(CandleDebts x) {
        due("judge(0)", x.judge(0), NO);
        due("behind(0, 0)", x.behind(0, 0), NO);
        due("has(0)", x.has(0), NO);
        due("then(0)", x.then(0), NO);
        due("lasts(12)", x.lasts(12), UNKNOWN);
        due("joined(12)", x.joined(12), UNKNOWN);
        due("may(6)", x.may(6), UNKNOWN);
        due("net(6)", x.net(6), UNKNOWN);
        due("round(12, 0)", x.round(12, 0), UNKNOWN);
        due("accounts(0, 0)", x.accounts(0, 0), OUTSIDE);
        due("jubilee(4096)", x.jubilee(4096), OUTSIDE);
        due("trims(0, 0)", x.trims(0, 0), OUTSIDE);
        due("look(2)", x.look(2), OUTSIDE);
        due("snuff(2)", x.snuff(2), OUTSIDE);
        due("moths(11, 1, 1, 0)", x.moths(11, 1, 1, 0), LOST + UNKNOWN);
        due("ship(0, 0, 0, 0)", x.ship(0, 0, 0, 0), LOST + OUTSIDE);
        due("year(10000, 1, 0)", x.year(10000, 1, 0), OUTSIDE);
        due("told(5)", x.told(5), OUTSIDE);
    }

    /** What comes ahead of an ACT that can not be is not DONE either, and the PAD stays. */
    private static void refusedNights() {
        CandleDebts x = busy();
        Streets.write(x, "..a!a^wa9b-c*");
        String ahead = Streets.all(x);
        due("done() of an ACT that can not be", x.done(), NO);
        due("behind(0, 0)", x.behind(0, 0), NO);
        due("has(1)", x.has(1), NO);
        due("then(3)", x.then(3), NO);
        doc.same("all behind an ACT that can not be", Streets.all(x), ahead);
    }

    private static void refusedWhenFull() {
        CandleDebts x = busy();
        for (int i = 0; i < 7; i++) {
            x.seen(0, 4);
        }
        Streets.write(x, Streets.times(60, "."));
        String ahead = Streets.all(x);
        due("say, full", x.say('a'), FULL);
        due("seen, full", x.seen(1, 9), FULL);
        doc.same("all behind FULL", Streets.all(x), ahead);
    }

    // ---- fractions and sets

    private static void fractions() {
        doc.of("Terms", "Fractions are told in lowest terms by part: 0 the upper, 1 the lower number; refused with LOST and the refusal.");
        CandleDebts x = Streets.lit(0b111, 20);
        due("50 of 100, upper", x.ship(2, 50, 25, 0), 1);
        due("50 of 100, lower", x.ship(2, 50, 25, 1), 2);
        due("nothing, upper", x.ship(9, 0, 99, 0), 0);
        due("nothing, lower", x.ship(9, 0, 99, 1), 1);
        due("certain, upper", x.ship(1, 99, 0, 0), 1);
        due("certain, lower", x.ship(1, 99, 0, 1), 1);
        due("a mean above 1, upper", x.moths(-1, 0, 0, 0), 3);
        due("a mean above 1, lower", x.moths(-1, 0, 0, 1), 1);
        due("a mean, upper", x.moths(-1, 4, 2, 0), 27);
        due("a mean, lower", x.moths(-1, 4, 2, 1), 25);
        for (int part : new int[] {LEAST, -1, 2, MOST}) {
            due("moths, part " + part, x.moths(0, 1, 1, part), LOST + OUTSIDE);
            due("ship, part " + part, x.ship(1, 0, 0, part), LOST + OUTSIDE);
        }
        due("LOST and UNKNOWN", x.moths(3, 1, 1, 0), -1000000000000000001L);
        due("LOST and OUTSIDE", x.ship(0, 1, 1, 0), -1000000000000000002L);
    }

    private static void sets() {
        doc.of("Terms", "Sets are bits.");
        CandleDebts x = Streets.lit(0b100000000001, 9);
        due("told(1)", x.told(1), 2049);
        due("then(0)", x.then(0), 2049);
        due("may(0)", x.may(0), 2049);
        due("accounts(1, 1)", x.accounts(1, 1), 2049);
        x.candle(10, 9, 0, 1, 5);
        Streets.done(x, "l>k");
        due("joined(10)", x.joined(10), 2048);
        due("joined(11)", x.joined(11), 1024);
        due("jubilee(3073)", x.jubilee(3073), 0);
    }

    // ---- 1 what there is

    private static void twelveCandlesInARow() {
        of("CANDLES 0 to 11 (a to l) stand in windows in a row, from west to east");
        CandleDebts x = new CandleDebts();
        due("candle(0, ..)", x.candle(0, 90, 0, 1, 5), 0);
        due("candle(11, ..)", x.candle(11, 90, 0, 1, 5), 0);
        due("candle(-1, ..)", x.candle(-1, 90, 0, 1, 5), UNKNOWN);
        due("candle(12, ..)", x.candle(12, 90, 0, 1, 5), UNKNOWN);
        faultOf(x, "`*", 0);
        faultOf(x, "a*", NONE);
        faultOf(x, "l*", NONE);
        faultOf(x, "m*", 0);
        theRowIsNoRing(x);
        due("l is east of a", x.round(0, 1), 1);
        due("a is west of l", x.round(11, 1), 0);
    }

    private static void theRowIsNoRing(CandleDebts x) {
        canNot(x, "a*a>l", 1, 4);
        canNot(x, "l*l>a", 1, 4);
        due("a match for each end", x.jubilee(2049), 2);
        x.seen(0, 0);
        due("sneezes at a", x.sneezes(-1), 10);
        due("the last window that reaches a", x.sneezes(9), 3003);
        x.forget();
        x.seen(11, 0);
        due("sneezes at l", x.sneezes(-1), 10);
        due("the first window that reaches l", x.sneezes(0), 8003);
        Streets.done(x, "a*l*");
        due("both ends are not snuffed at once", x.snuff(0), 0);
        due("from a to l", x.round(0, 0), 11);
        due("from l to a", x.round(11, 0), 11);
    }

    private static void wax() {
        of("each has WAX (0 to 999; 0 at first)");
        CandleDebts x = new CandleDebts();
        due("at first", x.told(130), 0);
        due("candle(3, 999, ..)", x.candle(3, 999, 0, 1, 5), 0);
        due("candle(3, 0, ..)", x.candle(3, 0, 0, 1, 5), 999);
        due("candle(3, 1, ..)", x.candle(3, 1, 0, 1, 5), 0);
        for (int wax : new int[] {LEAST, -1, 1000, MOST}) {
            due("candle(3, " + wax + ", ..)", x.candle(3, wax, 0, 1, 5), OUTSIDE);
        }
        due("still", x.told(130), 1);
        x.draught(3, 9);
        Streets.done(x, "d*.");
        due("never below 0", x.told(130), 0);
    }

    private static void litOrNot() {
        of("is LIT or not (not, at first; never without WAX)");
        CandleDebts x = new CandleDebts();
        due("at first", x.told(1), 0);
        x.candle(0, 1, 0, 1, 5);
        canNot(x, "a*a>b", 1, 1);
        due("done()", Streets.done(x, "a*"), 1);
        due("with WAX 1", x.told(101), 1);
        due("done()", Streets.done(x, "."), 1);
        due("with WAX 0", x.told(101), 0);
        canNot(x, "a*", 0, 1);
        x.candle(0, 9, 0, 1, 5);
        Streets.done(x, "a*");
        x.candle(0, 0, 0, 1, 5);
        due("anew without WAX", x.told(1), 0);
        // seed 901 draws a match for a
        due("a year without WAX", x.year(901, 1, 2), 0);
    }

    private static void trimmed() {
        of("TRIMMED so many times (0 to 9; 0 at first)");
        CandleDebts x = new CandleDebts();
        due("at first", x.told(172), 0);
        due("nine times", Streets.done(x, Streets.times(9, "h^")), 9);
        due("told(172)", x.told(172), 9);
        canNot(x, "h^", 0, 5);
        due("another one", x.told(162), 0);
    }

    private static void ones() {
        of("and is for a debt: what its DEBTOR owes its CREDITOR (ONES 0 to 5; both 0 at first)");
        CandleDebts x = new CandleDebts();
        due("the CREDITOR at first", x.told(104), 0);
        due("the DEBTOR at first", x.told(105), 0);
        due("candle(0, 1, 5, 0, 1)", x.candle(0, 1, 5, 0, 1), 0);
        due("the CREDITOR", x.told(104), 5);
        due("the DEBTOR", x.told(105), 0);
        due("candle(0, 1, 0, 5, 1)", x.candle(0, 1, 0, 5, 1), 1);
        due("the CREDITOR", x.told(104), 0);
        due("the DEBTOR", x.told(105), 5);
        for (int one : new int[] {LEAST, -1, 6, MOST}) {
            due("CREDITOR " + one, x.candle(0, 1, one, 0, 1), UNKNOWN);
            due("DEBTOR " + one, x.candle(0, 1, 0, one, 1), UNKNOWN);
        }
    }

    private static void sums() {
        of("the SUM (0 to 999; 0 at first)");
        CandleDebts x = new CandleDebts();
        due("at first", x.told(106), 0);
        x.candle(0, 1, 0, 1, 999);
        due("the most", x.told(106), 999);
        x.candle(0, 1, 0, 1, 0);
        due("the least", x.told(106), 0);
        for (int sum : new int[] {LEAST, -1, 1000, MOST}) {
            due("SUM " + sum, x.candle(0, 1, 0, 1, sum), OUTSIDE);
        }
    }

    private static void draughts() {
        of("DRAUGHT at its window is 0 to 9 (0 at first).");
        CandleDebts x = new CandleDebts();
        due("at first", x.told(213), 0);
        due("draught(11, 9)", x.draught(11, 9), 0);
        due("draught(11, 0)", x.draught(11, 0), 9);
        for (int v : new int[] {LEAST, -1, 10, MOST}) {
            due("draught(11, " + v + ")", x.draught(11, v), OUTSIDE);
        }
        can(x, "wl9wl0");
        faultOf(x, "wl/", 2);
        faultOf(x, "wl:", 2);
        x.draught(11, 4);
        x.candle(11, 5, 0, 1, 5);
        due("of the window, so it stays", x.told(213), 4);
    }

    private static void joined() {
        of("CANDLES are JOINED with those that they were LIT from, or that were from them, and so on (none at first).");
        CandleDebts x = new CandleDebts();
        for (int c = 0; c < 12; c++) {
            due("at first, " + c, x.joined(c), 0);
            x.candle(c, 90, 0, 1, 5);
        }
        Streets.done(x, "f*f>ef>ge>d");
        due("it was LIT from one", x.joined(3), 0b1110000);
        due("others were from it", x.joined(5), 0b1011000);
        due("not with itself, not with others", x.joined(6), 0b0111000);
        due("not with others", x.joined(7), 0);
        Streets.done(x, "d>cc>bb>ag>hh>ii>jj>kk>l");
        for (int c = 0; c < 12; c++) {
            due("all with " + c, x.joined(c), 4095 & ~(1 << c));
        }
    }

    private static void purses() {
        of("Each ONE has a PURSE (0 to 9999; 100 at first).");
        CandleDebts x = new CandleDebts();
        due("purse(0, 0)", x.purse(0, 0), 100);
        due("purse(0, 9999)", x.purse(0, 9999), 0);
        due("purse(5, 9999)", x.purse(5, 9999), 100);
        due("told(10)", x.told(10), 9999);
        for (int v : new int[] {LEAST, -1, 10000, MOST}) {
            due("purse(0, " + v + ")", x.purse(0, v), OUTSIDE);
        }
        for (int one = 1; one < 5; one++) {
            due("at first", x.told(10 + one), 100);
        }
    }

    private static void matches() {
        of("MATCHES are 0 to 99 (20 at first).");
        CandleDebts x = new CandleDebts();
        due("matches(99)", x.matches(99), 20);
        due("matches(0)", x.matches(0), 99);
        due("matches(1)", x.matches(1), 0);
        for (int v : new int[] {LEAST, -1, 100, MOST}) {
            due("matches(" + v + ")", x.matches(v), OUTSIDE);
        }
        x.candle(0, 9, 0, 1, 5);
        due("the last one", Streets.done(x, "a*"), 1);
        due("told(2)", x.told(2), 0);
        canNot(x, "a-a*", 1, 3);
    }

    private static void minutes() {
        of("It is minute 0 at first.");
        CandleDebts x = new CandleDebts();
        due("told(3)", x.told(3), 0);
        due("then(2)", x.then(2), 0);
        Streets.done(x, "..");
        Streets.write(x, ".");
        due("then(2)", x.then(2), 3);
    }

    private static void burn() {
        of("BURN of a CANDLE: 1, and the DRAUGHT, less TRIMMED; 1 at least: so much WAX is gone in a minute while it is LIT.");
        CandleDebts x = new CandleDebts();
        x.candle(0, 50, 0, 1, 5);
        due("at first", x.told(107), 1);
        x.draught(0, 9);
        due("the most", x.told(107), 10);
        Streets.done(x, Streets.times(8, "a^"));
        due("TRIMMED 8", x.told(107), 2);
        Streets.done(x, "a^");
        due("TRIMMED 9", x.told(107), 1);
        x.draught(0, 8);
        due("1 at least", x.told(107), 1);
        x.draught(0, 0);
        due("1 at least", x.told(107), 1);
        Streets.done(x, ".");
        due("not LIT", x.told(100), 50);
        Streets.done(x, "a*.");
        due("LIT", x.told(100), 49);
        x.candle(0, 50, 0, 1, 5);
        x.draught(0, 9);
        Streets.done(x, "a*.");
        due("LIT, BURN 10", x.told(100), 40);
    }

    public static void main(String[] args) throws IOException {
        doc = new Sentences();
        callsOfAnObject();
        theFirstRefusalThatFits();
        refusedCallsChangeNothing();
        fractions();
        sets();
        twelveCandlesInARow();
        wax();
        litOrNot();
        trimmed();
        ones();
        sums();
        draughts();
        joined();
        purses();
        matches();
        minutes();
        burn();
        doc.allQuoted("What it is", "An object is used", "\n");
        doc.allQuoted("Terms", "", "");
        doc.allQuoted("Terms 1", "", "NIGHTS are");
        doc.end();
    }
}
