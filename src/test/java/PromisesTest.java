/** Each promise by hand: ordinary inputs, the edges that the document names, wrong inputs. */
public final class PromisesTest {
    private static final int NONE = -6, UNKNOWN = -1, OUTSIDE = -2, STATE = -3, FULL = -4, NO = -5;
    private static final long LOST = -1000000000000000000L;
    private static int wrong = 0;
    private static String promise = "";

    private static void due(String call, long got, long want) {
        if (got != want) {
            wrong++;
            System.out.println(promise + ": " + call + " answered " + got + ", due is " + want);
        }
    }

    private static void write(CandleDebts x, String text) {
        x.wipe();
        for (int i = 0; i < text.length(); i++) {
            x.say(text.charAt(i));
        }
    }

    /** What judge(0) and judge(1) answer to a text. */
    private static void judged(CandleDebts x, String text, int act, int why) {
        write(x, text);
        due("judge(0) of " + text, x.judge(0), act);
        due("judge(1) of " + text, x.judge(1), why);
    }

    private static void doing(CandleDebts x, String text, int acts) {
        write(x, text);
        due("done() of " + text, x.done(), acts);
    }

    private static void faulty(CandleDebts x, String text, int place) {
        write(x, text);
        due("fault() of " + text, x.fault(), place);
        due("judge(0) of " + text, x.judge(0), place == NONE ? x.judge(0) : NO);
    }

    private static void part(String call, long upper, long lower, long wantUpper, long wantLower) {
        due(call + " upper", upper, wantUpper);
        due(call + " lower", lower, wantLower);
    }

    /** All CANDLES of a set LIT by matches, with so much WAX each. */
    private static CandleDebts lit(int set, int wax) {
        CandleDebts x = new CandleDebts();
        StringBuilder text = new StringBuilder();
        for (int c = 0; c < 12; c++) {
            if ((set >> c & 1) != 0) {
                x.candle(c, wax, c % 6, (c + 1) % 6, 10 + c);
                text.append((char) ('a' + c)).append('*');
            }
        }
        write(x, text.toString());
        x.done();
        return x;
    }

    private static void newObject() {
        promise = "1 a new object";
        CandleDebts x = new CandleDebts();
        for (int c = 0; c < 12; c++) {
            for (int what = 0; what < 7; what++) {
                due("told of candle " + c, x.told(100 + 10 * c + what), 0);
            }
            due("told of burn " + c, x.told(107 + 10 * c), 1);
            due("joined(" + c + ")", x.joined(c), 0);
            due("lasts(" + c + ")", x.lasts(c), 0);
        }
        for (int one = 0; one < 6; one++) {
            due("told of purse " + one, x.told(10 + one), 100);
        }
        due("told(0)", x.told(0), 0);
        due("told(1)", x.told(1), 0);
        due("told(2)", x.told(2), 20);
        due("told(3)", x.told(3), 0);
        due("told(4)", x.told(4), 0);
        due("restore(0)", x.restore(0), STATE);
        due("restore(1)", x.restore(1), STATE);
    }

    private static void candles() {
        promise = "2 candle";
        CandleDebts x = new CandleDebts();
        due("candle", x.candle(11, 999, 5, 4, 999), 0);
        due("again", x.candle(11, 7, 3, 2, 1), 999);
        due("wax", x.told(210), 7);
        due("creditor", x.told(214), 3);
        due("debtor", x.told(215), 2);
        due("sum", x.told(216), 1);
        due("no candle", x.candle(-1, 0, 0, 0, 0), UNKNOWN);
        due("no candle", x.candle(12, 1000, 0, 0, 0), UNKNOWN);
        due("no creditor", x.candle(0, -1, 6, 0, 0), UNKNOWN);
        due("no creditor", x.candle(0, 0, -1, 0, 0), UNKNOWN);
        due("no debtor", x.candle(0, 0, 0, -1, 1000), UNKNOWN);
        due("no debtor", x.candle(0, 0, 0, 6, 0), UNKNOWN);
        due("wax", x.candle(11, -1, 0, 0, 0), OUTSIDE);
        due("wax", x.candle(11, 1000, 0, 0, 0), OUTSIDE);
        due("sum", x.candle(11, 0, 0, 0, -1), OUTSIDE);
        due("sum", x.candle(11, 0, 0, 0, 1000), OUTSIDE);
        due("wax, still", x.told(210), 7);
        x = new CandleDebts();
        for (int c = 0; c < 3; c++) {
            x.candle(c, 50, 0, 1, 5);
        }
        x.draught(1, 4);
        doing(x, "b^a*a>bb>c", 4);
        due("anew", x.candle(1, 20, 0, 1, 5), 50);
        due("not lit", x.told(111), 0);
        due("others are lit", x.told(1), 5);
        due("not trimmed", x.told(112), 0);
        due("the draught stays", x.told(113), 4);
        due("joined with none", x.joined(1), 0);
        due("those left stay joined", x.joined(0), 4);
        due("those left stay joined", x.joined(2), 1);
    }

    private static void draughts() {
        promise = "3 draught";
        CandleDebts x = new CandleDebts();
        due("draught(3, 9)", x.draught(3, 9), 0);
        due("draught(3, 0)", x.draught(3, 0), 9);
        due("draught(3, 2)", x.draught(3, 2), 0);
        due("burn", x.told(137), 3);
        due("no candle", x.draught(12, 10), UNKNOWN);
        due("no candle", x.draught(-1, 0), UNKNOWN);
        due("draught", x.draught(3, 10), OUTSIDE);
        due("draught", x.draught(3, -1), OUTSIDE);
        due("still", x.told(133), 2);
    }

    private static void pursesAndMatches() {
        promise = "4 purse";
        CandleDebts x = new CandleDebts();
        due("purse(5, 9999)", x.purse(5, 9999), 100);
        due("purse(5, 0)", x.purse(5, 0), 9999);
        due("told(15)", x.told(15), 0);
        due("told(14)", x.told(14), 100);
        due("no one", x.purse(6, -1), UNKNOWN);
        due("no one", x.purse(-1, 0), UNKNOWN);
        due("purse", x.purse(0, 10000), OUTSIDE);
        due("purse", x.purse(0, -1), OUTSIDE);
        due("still", x.told(10), 100);
        promise = "5 matches";
        due("matches(99)", x.matches(99), 20);
        due("matches(100)", x.matches(100), OUTSIDE);
        due("matches(-1)", x.matches(-1), OUTSIDE);
        due("matches(0)", x.matches(0), 99);
        due("told(2)", x.told(2), 0);
    }

    private static void pads() {
        promise = "6 say";
        CandleDebts x = new CandleDebts();
        due("say(32)", x.say(32), OUTSIDE);
        due("say(127)", x.say(127), OUTSIDE);
        due("say(-46)", x.say(-46), OUTSIDE);
        for (int i = 0; i < 60; i++) {
            due("say", x.say(i == 0 ? 33 : i == 1 ? 126 : '.'), i + 1);
        }
        due("say, full", x.say('.'), FULL);
        due("say, outside ahead of full", x.say(0), OUTSIDE);
        due("told(0)", x.told(0), 60);
        promise = "7 wipe";
        due("wipe()", x.wipe(), 60);
        due("wipe()", x.wipe(), 0);
        due("say", x.say('.'), 1);
        due("fault()", x.fault(), NONE);
    }

    private static void faults() {
        promise = "8 fault";
        CandleDebts x = new CandleDebts();
        faulty(x, "", NONE);
        faulty(x, ".", NONE);
        faulty(x, "a*l-b!c^d>e.wl0wa9", NONE);
        faulty(x, "a>a", NONE);
        faulty(x, "a>l", NONE);
        faulty(x, "a", 1);
        faulty(x, "l>", 2);
        faulty(x, "w", 1);
        faulty(x, "wa", 2);
        faulty(x, "m*", 0);
        faulty(x, "A*", 0);
        faulty(x, "`*", 0);
        faulty(x, "*", 0);
        faulty(x, "0", 0);
        faulty(x, "ab", 1);
        faulty(x, "a.", 1);
        faulty(x, "aw", 1);
        faulty(x, "a<b", 1);
        faulty(x, "a>m", 2);
        faulty(x, "a>w", 2);
        faulty(x, "wm0", 1);
        faulty(x, "ww0", 1);
        faulty(x, "wa/", 2);
        faulty(x, "wa:", 2);
        faulty(x, "waa", 2);
        faulty(x, "..a*.a", 6);
        faulty(x, "a*x!", 2);
        faulty(x, "............................................................", NONE);
        faulty(x, "...........................................................a", 60);
        faulty(x, "..........................................................wa", 60);
    }

    private static void judging() {
        promise = "9 judge";
        CandleDebts x = new CandleDebts();
        due("judge(2)", x.judge(2), OUTSIDE);
        due("judge(-1)", x.judge(-1), OUTSIDE);
        judged(x, "", NONE, NONE);
        x.candle(0, 10, 0, 1, 50);
        x.candle(1, 10, 2, 3, 0);
        x.candle(11, 10, 2, 3, 20);
        judged(x, "a*c*", 1, 1);
        judged(x, "a*a*", 1, 2);
        judged(x, "a*a>c", 1, 1);
        judged(x, "c>a", 0, 2);
        judged(x, "a>b", 0, 2);
        judged(x, "a*b*a>b", 2, 2);
        judged(x, "a*a>a", 1, 2);
        judged(x, "a*a>l", 1, 4);
        judged(x, "l*l>a", 1, 4);
        judged(x, "a-", 0, 2);
        judged(x, "c-", 0, 2);
        judged(x, "a!", 0, 2);
        judged(x, "b!", 0, 2);
        judged(x, "b*b!", 1, 5);
        judged(x, "c^c^c^c^c^c^c^c^c^", NONE, NONE);
        judged(x, "c^c^c^c^c^c^c^c^c^c^", 9, 5);
        judged(x, "wa0", 0, 7);
        judged(x, "wa3wa3", 1, 7);
        judged(x, "wa3wa0", NONE, NONE);
        x.matches(0);
        judged(x, "a*", 0, 3);
        judged(x, "c*", 0, 1);
        x.matches(1);
        judged(x, "a*a>bb-b*", 3, 3);
        judged(x, "a*a*", 1, 2);
        x.purse(0, 9950);
        judged(x, "a*a!", 1, 6);
        x.purse(1, 49);
        judged(x, "a*a!", NONE, NONE);
        judged(x, "a*a!a!", NONE, NONE);
        x.purse(1, 50);
        x.purse(0, 9949);
        judged(x, "a*a!a!", 2, 5);
        write(x, "a*a");
        due("judge(0), a fault", x.judge(0), NO);
        due("judge(2), a fault", x.judge(2), OUTSIDE);
        minutesToTheLast();
    }

    private static void minutesToTheLast() {
        CandleDebts x = new CandleDebts();
        String sixty = "............................................................";
        for (int i = 0; i < 16; i++) {
            doing(x, sixty, 60);
        }
        due("told(3)", x.told(3), 960);
        judged(x, sixty, 39, 8);
        doing(x, sixty.substring(21), 39);
        due("told(3)", x.told(3), 999);
        judged(x, ".", 0, 8);
    }

    private static void doings() {
        promise = "10 done";
        CandleDebts x = new CandleDebts();
        due("done(), empty", x.done(), 0);
        x.candle(0, 10, 0, 1, 50);
        doing(x, "a*wa2a^..a!", 6);
        due("wax", x.told(100), 6);
        due("lit", x.told(101), 1);
        due("trimmed", x.told(102), 1);
        due("draught", x.told(103), 2);
        due("sum", x.told(106), 0);
        due("burn", x.told(107), 2);
        due("matches", x.told(2), 19);
        due("minute", x.told(3), 2);
        due("purse", x.told(10), 150);
        due("purse", x.told(11), 50);
        due("the pad is empty", x.told(0), 0);
        doing(x, ".a!", NO);
        due("the pad stays", x.told(0), 3);
        due("nothing is done", x.told(100), 6);
        due("nothing is done", x.told(3), 2);
        doing(x, ".a", NO);
        due("nothing is done", x.told(3), 2);
        groups();
        payments();
    }

    private static void groups() {
        CandleDebts x = new CandleDebts();
        for (int c = 0; c < 6; c++) {
            x.candle(c, 50, 0, 1, 5);
        }
        doing(x, "a*a>bd*d>e", 4);
        due("joined(0)", x.joined(0), 2);
        due("joined(4)", x.joined(4), 8);
        doing(x, "b>cc-", 2);
        due("lit", x.told(1), 24);
        doing(x, "d>c", 1);
        due("joined with all of either", x.joined(0), 30);
        due("joined with all of either", x.joined(4), 15);
        doing(x, "e-", 1);
        due("lit", x.told(1), 0);
        due("still joined", x.joined(0), 30);
        doing(x, "c*", 1);
        due("a match parts it", x.joined(2), 0);
        due("a match parts it", x.joined(0), 26);
        doing(x, "c>bb-", 2);
        due("lit", x.told(1), 0);
        due("joined again", x.joined(2), 27);
        x = new CandleDebts();
        x.candle(0, 1, 0, 1, 5);
        x.candle(1, 9, 0, 1, 5);
        doing(x, "a*a>b.", 3);
        due("what went out stays joined", x.joined(1), 1);
        due("what went out is not lit", x.told(1), 2);
    }

    private static void payments() {
        CandleDebts x = new CandleDebts();
        x.candle(0, 10, 0, 1, 150);
        doing(x, "a*a!", 2);
        due("as much as the purse has", x.told(106), 50);
        due("purse", x.told(11), 0);
        due("purse", x.told(10), 200);
        doing(x, "a!", 1);
        due("nothing is paid", x.told(106), 50);
        x.candle(1, 10, 2, 2, 150);
        x.purse(2, 9999);
        doing(x, "b*b!", 2);
        due("who pays himself", x.told(12), 9999);
        due("who pays himself", x.told(116), 0);
    }

    private static void behinds() {
        promise = "11 behind";
        CandleDebts x = new CandleDebts();
        x.candle(2, 5, 0, 1, 50);
        x.draught(2, 3);
        write(x, "c*.c^");
        due("wax", x.behind(2, 0), 1);
        due("lit", x.behind(2, 1), 1);
        due("sum", x.behind(2, 2), 50);
        due("trimmed", x.behind(2, 3), 1);
        write(x, "c*..");
        due("wax", x.behind(2, 0), 0);
        due("lit", x.behind(2, 1), 0);
        due("sum", x.behind(2, 2), 0);
        due("not done", x.told(120), 5);
        due("not done", x.told(0), 4);
        due("no candle", x.behind(12, 4), UNKNOWN);
        due("no candle", x.behind(-1, 0), UNKNOWN);
        due("what", x.behind(0, 4), OUTSIDE);
        due("what", x.behind(0, -1), OUTSIDE);
        write(x, "c");
        due("a fault", x.behind(2, 0), NO);
        due("a fault, no candle", x.behind(12, 0), UNKNOWN);
        due("a fault, what", x.behind(2, 4), OUTSIDE);
        write(x, "c-");
        due("an act that can not be", x.behind(2, 0), NO);
        write(x, ".");
        due("what is not lit keeps its wax", x.behind(2, 0), 5);
        due("what is not lit keeps its sum", x.behind(2, 2), 50);
        x.candle(3, 0, 0, 1, 9);
        due("no wax, not lit: the sum stays", x.behind(3, 2), 9);
        promise = "12 has";
        write(x, "c*c!");
        due("has(0)", x.has(0), 150);
        due("has(1)", x.has(1), 50);
        due("has(2)", x.has(2), 100);
        due("not paid in fact", x.told(10), 100);
        due("has(6)", x.has(6), UNKNOWN);
        due("has(-1)", x.has(-1), UNKNOWN);
        write(x, "c!");
        due("has(0)", x.has(0), NO);
        due("has(6)", x.has(6), UNKNOWN);
        write(x, "!");
        due("has(0)", x.has(0), NO);
    }

    private static void thens() {
        promise = "13 then";
        CandleDebts x = new CandleDebts();
        x.candle(1, 2, 0, 1, 10);
        x.candle(2, 2, 2, 3, 20);
        x.candle(3, 1, 0, 1, 10);
        x.candle(4, 9, 4, 5, 300);
        write(x, "e*c*b*e!c!.d*.");
        due("lit", x.then(0), 16);
        due("matches", x.then(1), 16);
        due("minute", x.then(2), 2);
        due("paid", x.then(3), 120);
        due("the first act", x.then(4), 7);
        due("which", x.then(5), 1);
        due("then(6)", x.then(6), OUTSIDE);
        due("then(-1)", x.then(-1), OUTSIDE);
        write(x, "d*.b*..");
        due("the first act", x.then(4), 1);
        due("which", x.then(5), 3);
        write(x, "d*d-.");
        due("snuffed is not by itself", x.then(4), NONE);
        due("snuffed is not by itself", x.then(5), NONE);
        write(x, "d*d");
        due("a fault", x.then(0), NO);
        due("a fault", x.then(6), OUTSIDE);
        write(x, "d-");
        due("an act that can not be", x.then(3), NO);
    }

    private static void lastings() {
        promise = "14 lasts";
        CandleDebts x = new CandleDebts();
        x.candle(0, 999, 0, 0, 0);
        due("lasts(0)", x.lasts(0), 999);
        x.draught(0, 9);
        due("lasts(0)", x.lasts(0), 100);
        doing(x, "a^a^a^", 3);
        due("lasts(0)", x.lasts(0), 143);
        x.draught(0, 2);
        due("lasts(0)", x.lasts(0), 999);
        doing(x, "a^a^a^a^a^a^", 6);
        due("burn is 1 at least", x.told(107), 1);
        due("lasts(0)", x.lasts(0), 999);
        due("lasts(1)", x.lasts(1), 0);
        due("lasts(12)", x.lasts(12), UNKNOWN);
        due("lasts(-1)", x.lasts(-1), UNKNOWN);
        promise = "15 joined";
        due("joined(12)", x.joined(12), UNKNOWN);
        due("joined(-1)", x.joined(-1), UNKNOWN);
        promise = "16 may";
        x = lit(0b1000011, 9);
        due("may(0)", x.may(0), 0b1000001);
        due("may(1)", x.may(1), 0b10);
        due("may(2)", x.may(2), 0);
        x.candle(0, 9, 0, 1, 0);
        doing(x, "a*", 1);
        due("no sum", x.may(0), 0b1000000);
        doing(x, "g-", 1);
        due("not lit", x.may(0), 0);
        due("may(6)", x.may(6), UNKNOWN);
        due("may(-1)", x.may(-1), UNKNOWN);
        promise = "17 net";
        x = lit(0b1000011, 9);
        due("net(0)", x.net(0), 100026);
        due("net(1)", x.net(1), 100000 + 11 - 26);
        due("net(2)", x.net(2), 100000 - 11);
        due("net(3)", x.net(3), 100000);
        x.candle(2, 5, 3, 3, 90);
        doing(x, "c*g-", 2);
        due("his own", x.net(3), 100000);
        due("net(0)", x.net(0), 100010);
        due("net(6)", x.net(6), UNKNOWN);
        due("net(-1)", x.net(-1), UNKNOWN);
    }

    private static void rounds() {
        promise = "18 round";
        CandleDebts x = lit(0b100000000001, 99);
        due("round(6, 0)", x.round(6, 0), 16);
        due("round(6, 1)", x.round(6, 1), 1);
        due("round(5, 0)", x.round(5, 0), 16);
        due("round(5, 1)", x.round(5, 1), 0);
        due("round(0, 0)", x.round(0, 0), 11);
        due("round(0, 1)", x.round(0, 1), 1);
        due("round(11, 1)", x.round(11, 1), 0);
        x.candle(11, 6, 0, 1, 5);
        doing(x, "l*", 1);
        due("behind fewer minutes", x.round(6, 0), 16);
        due("behind fewer minutes", x.round(5, 0), NONE);
        due("behind fewer minutes", x.round(5, 1), NONE);
        x = lit(0b10100, 50);
        due("as far west as east", x.round(3, 0), 3);
        due("as far west as east", x.round(3, 1), 0);
        x = lit(0b100, 50);
        due("only that one", x.round(2, 0), 0);
        due("only that one", x.round(2, 1), NONE);
        due("next to it", x.round(3, 0), 1);
        due("next to it", x.round(3, 1), 0);
        x.candle(2, 50, 0, 1, 0);
        doing(x, "c*", 1);
        due("no sum", x.round(8, 0), 0);
        due("round(12, 2)", x.round(12, 2), UNKNOWN);
        due("round(-1, 0)", x.round(-1, 0), UNKNOWN);
        due("round(0, 2)", x.round(0, 2), OUTSIDE);
        due("round(0, -1)", x.round(0, -1), OUTSIDE);
    }

    private static void reading() {
        promise = "19 accounts";
        CandleDebts x = lit(0b1111, 6);
        due("accounts(2, 0)", x.accounts(2, 0), 3);
        due("accounts(2, 1)", x.accounts(2, 1), 0b111);
        due("accounts(6, 0)", x.accounts(6, 0), 1);
        due("accounts(6, 1)", x.accounts(6, 1), 1);
        due("accounts(7, 0)", x.accounts(7, 0), 0);
        due("accounts(99, 1)", x.accounts(99, 1), 0);
        x.candle(0, 1, 0, 1, 9);
        x.candle(3, 99, 0, 1, 0);
        doing(x, "a*d*", 2);
        due("accounts(2, 0)", x.accounts(2, 0), 3);
        due("accounts(2, 1)", x.accounts(2, 1), 0b1110);
        due("accounts(0, 0)", x.accounts(0, 0), OUTSIDE);
        due("accounts(100, 0)", x.accounts(100, 0), OUTSIDE);
        due("accounts(1, 2)", x.accounts(1, 2), OUTSIDE);
        due("accounts(1, -1)", x.accounts(1, -1), OUTSIDE);
    }

    private static void jubilees() {
        promise = "20 jubilee";
        CandleDebts x = new CandleDebts();
        for (int c = 0; c < 12; c++) {
            x.candle(c, c == 3 || c == 7 ? 0 : 5, 0, 1, 5);
        }
        due("three rows", x.jubilee(0b111101110111), 3);
        due("no matter how many there are", x.matches(0), 20);
        due("three rows", x.jubilee(0b100000010001), 3);
        due("one row", x.jubilee(0b101), 1);
        due("no wax", x.jubilee(0b1000), NONE);
        due("no wax", x.jubilee(0b1001), NONE);
        due("none", x.jubilee(0), 0);
        x.matches(9);
        doing(x, "f*", 1);
        due("one burns there", x.jubilee(0b1010000), 0);
        due("one burns elsewhere", x.jubilee(0b1010001), 1);
        due("jubilee(4095)", x.jubilee(4095), NONE);
        x.candle(3, 5, 0, 1, 5);
        x.candle(7, 5, 0, 1, 5);
        due("jubilee(4095)", x.jubilee(4095), 0);
        x.candle(3, 0, 0, 1, 5);
        due("jubilee(-1)", x.jubilee(-1), OUTSIDE);
        due("jubilee(4096)", x.jubilee(4096), OUTSIDE);
        promise = "21 trims";
        x.draught(0, 9);
        x.candle(0, 999, 0, 1, 5);
        due("trims(0, 100)", x.trims(0, 100), 0);
        due("trims(0, 101)", x.trims(0, 101), 1);
        due("trims(0, 999)", x.trims(0, 999), 9);
        doing(x, "a^a^", 2);
        due("trims(0, 999)", x.trims(0, 999), 7);
        x.candle(0, 998, 0, 1, 5);
        due("trims(0, 999)", x.trims(0, 999), NONE);
        due("trims(3, 1)", x.trims(3, 1), NONE);
        due("trims(12, 0)", x.trims(12, 0), UNKNOWN);
        due("trims(-1, 1)", x.trims(-1, 1), UNKNOWN);
        due("trims(0, 0)", x.trims(0, 0), OUTSIDE);
        due("trims(0, 1000)", x.trims(0, 1000), OUTSIDE);
    }

    private static void sneezing() {
        promise = "22 seen";
        CandleDebts x = new CandleDebts();
        x.candle(5, 999, 0, 1, 5);
        for (int i = 1; i <= 8; i++) {
            due("seen", x.seen(5, 7), i);
        }
        due("seen, full", x.seen(5, 7), FULL);
        due("seen, outside ahead of full", x.seen(5, 1000), OUTSIDE);
        due("seen(5, -1)", x.seen(5, -1), OUTSIDE);
        due("seen(12, -1)", x.seen(12, -1), UNKNOWN);
        due("seen(-1, 0)", x.seen(-1, 0), UNKNOWN);
        due("told(4)", x.told(4), 8);
        promise = "24 sneezes";
        due("sneezes(-1)", x.sneezes(-1), 16);
        due("sneezes(0)", x.sneezes(0), 2073);
        due("sneezes(1)", x.sneezes(1), 3072);
        due("sneezes(15)", x.sneezes(15), 8073);
        due("sneezes(16)", x.sneezes(16), NONE);
        due("sneezes(-2)", x.sneezes(-2), NONE);
        due("sneezes(least)", x.sneezes(Integer.MIN_VALUE), NONE);
        due("sneezes(most)", x.sneezes(Integer.MAX_VALUE), NONE);
        promise = "23 forget";
        due("forget()", x.forget(), 8);
        due("forget()", x.forget(), 0);
        due("sneezes(-1)", x.sneezes(-1), 2928);
        promise = "24 sneezes";
        x.seen(5, 60);
        due("burnt the whole hour", x.sneezes(-1), 2928 - 16 * 60);
        due("sneezes(last)", x.sneezes(2928 - 16 * 60 - 1), 11603);
        x.forget();
        x.candle(5, 7, 0, 1, 5);
        x.draught(5, 2);
        x.seen(5, 7);
        due("all it had", x.sneezes(-1), 2928 - 16 * 3);
        x.seen(5, 6);
        due("two losses at once", x.sneezes(-1), 0);
        x.forget();
        x.seen(5, 4);
        due("not by its burn", x.sneezes(-1), 0);
        due("none, the first", x.sneezes(0), NONE);
        promise = "25 look";
        due("look(0)", x.look(0), NONE);
        due("look(1)", x.look(1), NONE);
        due("look(2)", x.look(2), OUTSIDE);
        due("look(-1)", x.look(-1), OUTSIDE);
        x.forget();
        x.draught(5, 0);
        x.candle(5, 999, 0, 1, 5);
        due("look(0)", x.look(0), 5);
        due("look(1)", x.look(1), 2928 - 16 * 60);
    }

    private static void snuffing() {
        promise = "26 snuff";
        CandleDebts x = lit(0b1111, 5);
        due("four in a row", x.snuff(0), 0);
        due("four in a row", x.snuff(1), NONE);
        x = lit(0b11111, 5);
        due("five in a row", x.snuff(0), 1);
        due("five in a row", x.snuff(1), 2);
        due("nothing is snuffed", x.told(1), 0b11111);
        x = lit(0b1011, 5);
        due("two and one", x.snuff(1), NONE);
        x.candle(2, 9, 0, 1, 5);
        x.candle(4, 9, 0, 1, 5);
        doing(x, "a-d>c", 2);
        due("those beside it, not those joined", x.snuff(0), 1);
        due("the one in the middle", x.snuff(1), 2);
        due("snuff(2)", x.snuff(2), OUTSIDE);
        due("snuff(-1)", x.snuff(-1), OUTSIDE);
    }

    private static void chances() {
        promise = "27 moths";
        CandleDebts x = lit(0b111, 16);
        x.draught(2, 9);
        part("moths(0, 3, 15)", x.moths(0, 3, 15, 0), x.moths(0, 3, 15, 1), 4747561509943L, 1000000000000000L);
        part("moths(-1, 2, 2)", x.moths(-1, 2, 2, 0), x.moths(-1, 2, 2, 1), 32, 25);
        part("moths(-1, 2, 1)", x.moths(-1, 2, 1, 0), x.moths(-1, 2, 1, 1), 12, 5);
        part("moths(2, 0, 1)", x.moths(2, 0, 1, 0), x.moths(2, 0, 1, 1), 1, 1);
        part("moths(2, 0, 2)", x.moths(2, 0, 2, 0), x.moths(2, 0, 2, 1), 0, 1);
        part("moths(-1, 10, 0)", x.moths(-1, 10, 0, 0), x.moths(-1, 10, 0, 1), 3, 1);
        part("moths(-1, 10, 1)", x.moths(-1, 10, 1, 0), x.moths(-1, 10, 1, 1), 0, 1);
        due("not lit", x.moths(3, 11, 0, 0), LOST + UNKNOWN);
        due("no candle", x.moths(-2, 0, 0, 0), LOST + UNKNOWN);
        due("no candle", x.moths(12, 0, 0, 0), LOST + UNKNOWN);
        due("t", x.moths(0, 11, 0, 0), LOST + OUTSIDE);
        due("t", x.moths(0, -1, 0, 0), LOST + OUTSIDE);
        due("n", x.moths(0, 0, 16, 0), LOST + OUTSIDE);
        due("n", x.moths(-1, 0, -1, 0), LOST + OUTSIDE);
        due("part", x.moths(-1, 0, 0, 2), LOST + OUTSIDE);
        due("part", x.moths(0, 0, 0, -1), LOST + OUTSIDE);
        promise = "28 ship";
        part("ship(1, 0, 0)", x.ship(1, 0, 0, 0), x.ship(1, 0, 0, 1), 1, 1);
        part("ship(3, 0, 10)", x.ship(3, 0, 10, 0), x.ship(3, 0, 10, 1), 17, 20);
        part("ship(9, 22, 0)", x.ship(9, 22, 0, 0), x.ship(9, 22, 0, 1), 1, 1);
        part("ship(9, 22, 1)", x.ship(9, 22, 1, 0), x.ship(9, 22, 1, 1), 0, 1);
        part("ship(4, 50, 0)", x.ship(4, 50, 0, 0), x.ship(4, 50, 0, 1), 0, 1);
        part("ship(9, 99, 99)", x.ship(9, 99, 99, 0), x.ship(9, 99, 99, 1), 0, 1);
        due("p", x.ship(0, 0, 0, 0), LOST + OUTSIDE);
        due("p", x.ship(10, 0, 0, 0), LOST + OUTSIDE);
        due("m", x.ship(1, -1, 0, 0), LOST + OUTSIDE);
        due("m", x.ship(1, 100, 0, 0), LOST + OUTSIDE);
        due("n", x.ship(1, 0, -1, 0), LOST + OUTSIDE);
        due("n", x.ship(1, 0, 100, 0), LOST + OUTSIDE);
        due("part", x.ship(1, 0, 0, -1), LOST + OUTSIDE);
        due("part", x.ship(1, 0, 0, 2), LOST + OUTSIDE);
    }

    private static void years() {
        promise = "29 year";
        CandleDebts x = lit(0b1, 5);
        // seed 6 draws 524 (g from f), then 39374 (a minute)
        due("one draw", x.year(6, 1, 1), 5);
        due("two draws", x.year(6, 2, 1), 4);
        due("two draws", x.year(6, 2, 2), 1);
        // seed 0 draws 74: candle j is asked; seed 8: 674, a is asked
        due("asked", x.year(8, 1, 0), 10);
        due("asked elsewhere", x.year(0, 1, 0), 0);
        due("nothing is done", x.told(106), 10);
        due("nothing is done", x.told(3), 0);
        due("seed", x.year(-1, 1, 0), OUTSIDE);
        due("seed", x.year(10000, 1, 0), OUTSIDE);
        due("m", x.year(0, 0, 0), OUTSIDE);
        due("m", x.year(0, 100, 0), OUTSIDE);
        due("what", x.year(0, 1, -1), OUTSIDE);
        due("what", x.year(0, 1, 3), OUTSIDE);
    }

    private static void images() {
        promise = "30 image";
        CandleDebts x = new CandleDebts();
        due("image(2)", x.image(2), OUTSIDE);
        due("image(-1)", x.image(-1), OUTSIDE);
        x.candle(0, 10, 0, 1, 50);
        x.candle(1, 10, 0, 1, 50);
        x.seen(0, 3);
        doing(x, "a*a>b.a^wa3a!", 6);
        write(x, "ab");
        due("image(0)", x.image(0), 1);
        due("the pad stays", x.told(0), 2);
        promise = "31 restore";
        due("restore(1)", x.restore(1), STATE);
        due("restore(2)", x.restore(2), OUTSIDE);
        due("restore(-1)", x.restore(-1), OUTSIDE);
        x.candle(0, 99, 5, 4, 3);
        x.candle(1, 0, 0, 0, 0);
        x.draught(0, 1);
        x.purse(0, 1);
        x.matches(1);
        x.forget();
        x.seen(1, 1);
        x.seen(1, 1);
        doing(x, "..", 2);
        due("image(1)", x.image(1), 1);
        write(x, ".a*");
        due("restore(0)", x.restore(0), 1);
        due("the pad stays", x.told(0), 3);
        int[] whats = {1, 2, 3, 4, 10, 11, 100, 101, 102, 103, 104, 105, 106, 107, 110, 111, 116};
        int[] wants = {3, 19, 1, 1, 150, 50, 9, 1, 1, 3, 0, 1, 0, 3, 9, 1, 50};
        for (int i = 0; i < whats.length; i++) {
            due("told(" + whats[i] + ")", x.told(whats[i]), wants[i]);
        }
        due("joined(0)", x.joined(0), 2);
        due("sights are as they were", x.sneezes(-1), 10);
        x.purse(0, 7);
        due("restore(0) again", x.restore(0), 1);
        due("an image stays as it was kept", x.told(10), 150);
        due("restore(1)", x.restore(1), 1);
        due("told(3)", x.told(3), 3);
        due("told(4)", x.told(4), 2);
        due("told(100)", x.told(100), 99);
        due("joined(0)", x.joined(0), 0);
        promise = "32 told";
        int[] outside = {-1, 5, 9, 16, 99, 108, 109, 218, 219, 220, Integer.MIN_VALUE, Integer.MAX_VALUE};
        for (int what : outside) {
            due("told(" + what + ")", x.told(what), OUTSIDE);
        }
    }

    public static void main(String[] args) {
        newObject();
        candles();
        draughts();
        pursesAndMatches();
        pads();
        faults();
        judging();
        doings();
        behinds();
        thens();
        lastings();
        rounds();
        reading();
        jubilees();
        sneezing();
        snuffing();
        chances();
        years();
        images();
        if (wrong != 0) {
            System.exit(1);
        }
    }
}
