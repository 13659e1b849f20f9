import java.io.IOException;

/**
 * Each sentence of the document's Terms on what is reckoned (LASTS to YEARS) that names a boundary
 * case: a test of its own, with the sentence quoted in of(..).
 */
public final class BoundaryReckoningsTest {
    private static final int NONE = -6, OUTSIDE = -2, FULL = -4;
    private static final long LOST = -1000000000000000000L;
    private static final int LEAST = Integer.MIN_VALUE, MOST = Integer.MAX_VALUE;
    private static Sentences doc;

    private static void due(String call, long got, long want) {
        doc.due(call, got, want);
    }

    /** One CANDLE more that is LIT, with BURN 1; ONE 1 owes ONE 0. */
    private static void light(CandleDebts x, int candle, int wax, int sum) {
        Streets.light(x, 1 << candle, wax, sum);
    }

    // ---- 2 now

    private static void lasts() {
        doc.of("Terms 2", "LASTS, now: so many minutes a CANDLE would be LIT from now on, by BURN, if it is LIT or were (0: no WAX).");
        CandleDebts x = new CandleDebts();
        due("no WAX", x.lasts(0), 0);
        x.draught(0, 9);
        due("no WAX, BURN 10", x.lasts(0), 0);
        int[] wax = {1, 9, 10, 11, 20, 21, 999};
        int[] minutes = {1, 1, 1, 2, 2, 3, 100};
        for (int i = 0; i < wax.length; i++) {
            x.candle(0, wax[i], 0, 1, 5);
            due("not LIT, WAX " + wax[i], x.lasts(0), minutes[i]);
            Streets.done(x, "a*");
            due("LIT, WAX " + wax[i], x.lasts(0), minutes[i]);
        }
        x.draught(0, 0);
        due("WAX 999, BURN 1", x.lasts(0), 999);
        light(x, 1, 7, 5);
        x.draught(1, 2);
        Streets.done(x, "..");
        due("behind two of three minutes", x.lasts(1), 1);
        due("LIT still", x.told(111), 1);
        Streets.done(x, ".");
        due("behind three", x.lasts(1), 0);
        due("not LIT any more", x.told(111), 0);
    }

    private static void joined() {
        doc.of("Terms 2", "JOINED with it, as bits.");
        CandleDebts x = Streets.lit(0b10, 9);
        due("with none", x.joined(1), 0);
        x.candle(0, 9, 0, 1, 5);
        x.candle(2, 9, 0, 1, 5);
        Streets.done(x, "b>ab>c");
        due("with both", x.joined(1), 0b101);
        due("with the first and through it", x.joined(0), 0b110);
        x.candle(1, 9, 0, 1, 5);
        due("anew", x.joined(1), 0);
        due("those that are left", x.joined(0), 0b100);
    }

    private static void may() {
        doc.of("Terms 2", "MAY: CANDLES that are LIT, of which a ONE is CREDITOR, SUM above 0 (bits).");
        CandleDebts x = new CandleDebts();
        light(x, 0, 9, 0);
        due("SUM 0", x.may(0), 0);
        light(x, 0, 9, 1);
        due("SUM 1", x.may(0), 1);
        due("the DEBTOR", x.may(1), 0);
        light(x, 11, 1, 999);
        due("the last one", x.may(0), 2049);
        x.candle(5, 9, 0, 0, 50);
        due("not LIT", x.may(0), 2049);
        Streets.done(x, "f*.");
        due("LIT; another burnt out", x.may(0), 33);
        Streets.done(x, "a!");
        due("paid", x.may(0), 32);
    }

    private static void net() {
        doc.of("Terms 2", "NET: what is owed to a ONE, less what he owes, by SUMS of CANDLES that are LIT, and 100000.");
        CandleDebts x = new CandleDebts();
        for (int one = 0; one < 6; one++) {
            due("nothing LIT, net(" + one + ")", x.net(one), 100000);
        }
        Streets.light(x, 4095, 9, 999);
        due("the most", x.net(0), 111988);
        due("the least", x.net(1), 88012);
        due("another", x.net(2), 100000);
        Streets.done(x, "a-");
        due("not LIT", x.net(0), 110989);
        x.candle(0, 9, 2, 2, 700);
        Streets.done(x, "a*");
        due("his own", x.net(2), 100000);
    }

    // ---- 3 ROUND

    private static void roundAsksAt() {
        doc.of("Terms 3", "asks at all CANDLES that are LIT with a SUM above 0");
        CandleDebts x = new CandleDebts();
        light(x, 2, 50, 0);
        due("SUM 0", x.round(5, 0), 0);
        x.candle(2, 50, 0, 1, 9);
        due("not LIT", x.round(5, 0), 0);
        light(x, 2, 50, 1);
        due("SUM 1", x.round(5, 0), 3);
        due("from the west end", x.round(0, 0), 2);
        due("from the east end", x.round(11, 0), 9);
    }

    private static void roundInTime() {
        doc.of("Terms 3", "each is to be asked while it lasts: behind fewer minutes than LASTS");
        for (int lasts = 1; lasts <= 6; lasts++) {
            CandleDebts x = Streets.lit(0b100, lasts);
            due("three off, LASTS " + lasts, x.round(5, 0), lasts > 3 ? 3 : NONE);
        }
        CandleDebts x = Streets.lit(0b100, 7);
        x.draught(2, 1);
        due("three off, WAX 7, BURN 2", x.round(5, 0), 3);
        x.draught(2, 2);
        due("three off, WAX 7, BURN 3", x.round(5, 0), NONE);
        x = Streets.lit(0b1000, 1);
        light(x, 4, 2, 5);
        due("his own window first, LASTS 1", x.round(3, 0), 1);
        due("the other window first", x.round(4, 0), NONE);
        x = Streets.lit(0b100000000001, 1);
        due("beside him, LASTS 1, west", x.round(1, 0), NONE);
        due("beside him, LASTS 1, east", x.round(10, 0), NONE);
        Streets.done(x, "a-");
        due("beside him, LASTS 1, east alone", x.round(10, 0), NONE);
        x = Streets.lit(0b110, 9);
        light(x, 1, 1, 5);
        due("one behind another, LASTS 1 the nearer", x.round(0, 0), NONE);
    }

    private static void roundMinutes() {
        doc.of("Terms 3", "the fewest minutes behind which all are asked (0: there are none, or only that one); NONE: he can not");
        CandleDebts x = new CandleDebts();
        due("none", x.round(4, 0), 0);
        light(x, 4, 1, 5);
        due("only that one", x.round(4, 0), 0);
        due("another one, LASTS 1", x.round(5, 0), NONE);
        light(x, 4, 99, 5);
        light(x, 0, 99, 5);
        due("both behind him", x.round(7, 0), 7);
        due("between them", x.round(3, 0), 5);
        due("all on his way", x.round(0, 0), 4);
        x = Streets.lit(4095, 99);
        due("all, from the west end", x.round(0, 0), 11);
        due("all, from the middle", x.round(5, 0), 16);
        Streets.done(x, "l-k-a-b-");
        due("all but the ends", x.round(5, 0), 10);
        due("all but the ends, the first way", x.round(5, 1), 0);
        due("all but the ends, from the last of them", x.round(9, 0), 7);
        x = Streets.lit(2049, 17);
        due("both ends in time", x.round(5, 0), 16);
        x = Streets.lit(2049, 16);
        due("both ends, late by one", x.round(5, 0), NONE);
    }

    private static void roundFirstWay() {
        doc.of("Terms 3", "which way he goes first for it (0 west, 1 east; west, if it is the same; NONE: 0 minutes).");
        CandleDebts x = new CandleDebts();
        due("none", x.round(4, 1), NONE);
        light(x, 4, 99, 5);
        due("only that one", x.round(4, 1), NONE);
        due("it is west", x.round(5, 1), 0);
        due("it is east", x.round(3, 1), 1);
        light(x, 8, 99, 5);
        due("the same", x.round(6, 1), 0);
        due("nearer east", x.round(7, 1), 1);
        due("nearer west", x.round(5, 1), 0);
        x = Streets.lit(0b1000, 99);
        light(x, 8, 8, 5);
        due("in time by west", x.round(5, 0), 7);
        due("in time by west", x.round(5, 1), 0);
        light(x, 8, 7, 5);
        due("in time by east alone", x.round(5, 0), 8);
        due("in time by east alone", x.round(5, 1), 1);
        light(x, 3, 8, 5);
        due("he can not", x.round(5, 1), NONE);
        x = Streets.lit(0b100000000000, 99);
        due("the last window is east", x.round(10, 1), 1);
        due("the last window is beside", x.round(10, 0), 1);
    }

    // ---- 3 ACCOUNTS, JUBILEE, TRIMS

    private static void accountsMinutes() {
        doc.of("Terms 3", "ACCOUNTS: one reads accounts of CANDLES that are LIT, d minutes each (1 to 99)");
        CandleDebts x = Streets.lit(0b1, 99);
        for (int d : new int[] {LEAST, -1, 0, 100, MOST}) {
            due("accounts(" + d + ", 0)", x.accounts(d, 0), OUTSIDE);
        }
        due("d 1", x.accounts(1, 0), 1);
        due("d 99", x.accounts(99, 0), 1);
        x.candle(1, 99, 0, 1, 5);
        due("not LIT", x.accounts(1, 1), 1);
        light(x, 1, 99, 0);
        due("SUM 0", x.accounts(1, 1), 3);
    }

    private static void accountsInTime() {
        doc.of("Terms 3", "each to be read to its end while it lasts (behind no more minutes than LASTS): the most");
        CandleDebts x = Streets.lit(0b1, 4);
        due("LASTS 4, d 4", x.accounts(4, 0), 1);
        due("LASTS 4, d 5", x.accounts(5, 0), 0);
        light(x, 1, 8, 5);
        due("LASTS 4, 8, d 4", x.accounts(4, 0), 2);
        light(x, 1, 7, 5);
        due("LASTS 4, 7, d 4", x.accounts(4, 0), 1);
        x = Streets.lit(4095, 12);
        due("all twelve", x.accounts(1, 0), 12);
        x = Streets.lit(4095, 11);
        due("eleven of twelve", x.accounts(1, 0), 11);
        due("none is LIT", new CandleDebts().accounts(1, 0), 0);
    }

    private static void accountsLeastBits() {
        doc.of("Terms 3", "which, least as bits of as many.");
        CandleDebts x = Streets.lit(4095, 11);
        due("eleven of twelve", x.accounts(1, 1), 2047);
        due("none in time", x.accounts(12, 1), 0);
        due("one", x.accounts(11, 1), 1);
        x = Streets.lit(0b11, 2);
        light(x, 2, 4, 5);
        due("the third beside either of two", x.accounts(2, 1), 0b101);
        light(x, 0, 1, 5);
        due("the first is too short", x.accounts(2, 1), 0b110);
        x = Streets.lit(0b111, 2);
        light(x, 0, 1, 5);
        due("a short one beside either of two", x.accounts(1, 1), 0b011);
    }

    private static void jubileeFewest() {
        doc.of("Terms 3", "JUBILEE: the fewest MATCHES by which all of a set burn, others besides, if it helps:"
                + " one with WAX beside one that is LIT can be LIT from it: how many");
        CandleDebts x = new CandleDebts();
        x.candle(0, 1, 0, 1, 5);
        x.candle(2, 1, 0, 1, 5);
        due("none of the set", x.jubilee(0), 0);
        due("nothing between", x.jubilee(0b101), 2);
        x.candle(1, 1, 0, 1, 0);
        due("another besides", x.jubilee(0b101), 1);
        x.matches(0);
        due("no MATCHES at all", x.jubilee(0b101), 1);
        x.matches(1);
        Streets.done(x, "a*");
        due("LIT already", x.jubilee(0b1), 0);
        due("from what is LIT", x.jubilee(0b100), 0);
        x.candle(1, 0, 0, 1, 0);
        due("not over what has no WAX", x.jubilee(0b100), 1);
        x = new CandleDebts();
        for (int c = 0; c < 12; c += 2) {
            x.candle(c, 1, 0, 1, 5);
        }
        due("every second one", x.jubilee(0b010101010101), 6);
    }

    private static void jubileeWithoutWax() {
        doc.of("Terms 3", "NONE: one of them has no WAX.");
        CandleDebts x = new CandleDebts();
        for (int c = 0; c < 12; c++) {
            due("set of " + c, x.jubilee(1 << c), NONE);
        }
        due("all", x.jubilee(4095), NONE);
        due("none", x.jubilee(0), 0);
        for (int c = 0; c < 11; c++) {
            x.candle(c, 1, 0, 1, 5);
        }
        due("one of all", x.jubilee(4095), NONE);
        due("without that one", x.jubilee(2047), 1);
        x.candle(11, 1, 0, 1, 5);
        due("all with WAX", x.jubilee(4095), 1);
    }

    private static void trims() {
        doc.of("Terms 3", "TRIMS: how many times more a CANDLE is to be TRIMMED at the fewest (9 in all at most),"
                + " so that it LASTS n minutes (1 to 999) or more; NONE.");
        CandleDebts x = new CandleDebts();
        due("no WAX", x.trims(0, 1), NONE);
        x.draught(0, 9);
        x.candle(0, 100, 0, 1, 5);
        due("just so long", x.trims(0, 10), 0);
        due("one minute more", x.trims(0, 11), 1);
        due("BURN 2", x.trims(0, 50), 8);
        due("BURN 1", x.trims(0, 51), 9);
        due("BURN 1", x.trims(0, 100), 9);
        due("never so long", x.trims(0, 101), NONE);
        Streets.done(x, "a^a^a^");
        due("TRIMMED 3, now", x.trims(0, 15), 0);
        due("TRIMMED 3, once more", x.trims(0, 16), 1);
        due("TRIMMED 3, to 9", x.trims(0, 100), 6);
        Streets.done(x, "a^a^a^a^a^a^");
        due("TRIMMED 9, now", x.trims(0, 100), 0);
        due("TRIMMED 9", x.trims(0, 101), NONE);
        x.candle(1, 999, 0, 1, 5);
        due("the most minutes", x.trims(1, 999), 0);
        x.candle(1, 998, 0, 1, 5);
        due("the most minutes", x.trims(1, 999), NONE);
        for (int n : new int[] {LEAST, -1, 0, 1000, MOST}) {
            due("trims(0, " + n + ")", x.trims(0, n), OUTSIDE);
        }
        due("nothing is TRIMMED", x.told(112), 0);
    }

    // ---- 4 SNEEZES

    private static void sneezeHour() {
        doc.of("Terms 4", "SNEEZE: all CANDLES were LIT an hour (60 minutes) ago, with the WAX, BURN of now");
        CandleDebts x = new CandleDebts();
        x.candle(5, 999, 0, 1, 5);
        x.seen(5, 60);
        due("burnt the whole hour, not LIT now", x.sneezes(-1), 32 * 61 + 16);
        x.forget();
        x.seen(5, 61);
        due("more than an hour burns", x.sneezes(-1), 0);
        x.forget();
        x.seen(5, 20);
        due("BURN 1", x.sneezes(0), 2203);
        x.draught(5, 1);
        due("BURN 2 now", x.sneezes(0), 2103);
        x.draught(5, 2);
        due("BURN 3 now", x.sneezes(0), NONE);
        x.candle(5, 20, 0, 1, 5);
        due("that is all the WAX now", x.sneezes(-1), 32 * 61 + 16 * 54);
    }

    private static void sneezeMinute() {
        doc.of("Terms 4", "somebody sneezed once, at a window, at minute t (0 to 60)");
        CandleDebts x = new CandleDebts();
        x.candle(0, 999, 0, 1, 5);
        x.candle(11, 999, 0, 1, 5);
        x.seen(0, 0);
        due("at minute 0", x.sneezes(-1), 10);
        due("at minute 0, the first", x.sneezes(0), 0);
        x.forget();
        x.seen(0, 59);
        due("at minute 59", x.sneezes(-1), 10);
        due("at minute 59, the first", x.sneezes(0), 590);
        x.forget();
        x.seen(0, 60);
        due("at minute 60, or nowhere near", x.sneezes(-1), 10 + 38 * 61);
        due("at minute 60, the first", x.sneezes(0), 600);
        x.forget();
        x.seen(0, 5);
        x.seen(11, 5);
        due("once, not at both ends", x.sneezes(-1), 0);
        x.forget();
        x.seen(0, 5);
        x.seen(0, 5);
        due("the same twice", x.sneezes(-1), 10);
        x.seen(0, 6);
        due("once, not at two minutes", x.sneezes(-1), 0);
    }

    private static void sneezeReach() {
        doc.of("Terms 4", "all that are no more than d windows (0 to 3) off went out then.");
        CandleDebts x = new CandleDebts();
        for (int c = 0; c < 12; c++) {
            x.candle(c, 999, 0, 1, 5);
        }
        x.seen(4, 5);
        x.seen(5, 60);
        int[] fit = {1053, 2052, 3051, 4050};
        due("one side of a reach", x.sneezes(-1), 4);
        for (int i = 0; i < 4; i++) {
            due("sneezes(" + i + ")", x.sneezes(i), fit[i]);
        }
        x.forget();
        x.seen(0, 5);
        x.seen(6, 5);
        due("three off to both sides", x.sneezes(-1), 1);
        due("three off to both sides", x.sneezes(0), 3053);
        x.seen(7, 60);
        due("four off", x.sneezes(0), 3053);
        x.forget();
        x.seen(0, 5);
        x.seen(7, 5);
        due("no reach is so wide", x.sneezes(-1), 0);
        x.forget();
        x.seen(6, 60);
        x.seen(8, 60);
        x.seen(7, 9);
        due("just the window", x.sneezes(-1), 1);
        due("just the window", x.sneezes(0), 7090);
    }

    private static void sights() {
        doc.of("Terms 4", "SIGHTS, 8 at most: a CANDLE lost so much WAX (0 to 999; all it had at the most) in the hour.");
        CandleDebts x = new CandleDebts();
        for (int i = 1; i <= 8; i++) {
            due("SIGHT " + i, x.seen(5, 0), i);
        }
        due("SIGHT 9", x.seen(5, 0), FULL);
        due("no WAX, nothing lost", x.sneezes(-1), 2928);
        due("forget()", x.forget(), 8);
        for (int lost : new int[] {LEAST, -1, 1000, MOST}) {
            due("seen(5, " + lost + ")", x.seen(5, lost), OUTSIDE);
        }
        due("more than it had can be told", x.seen(5, 1), 1);
        due("and never fits", x.sneezes(-1), 0);
        x.forget();
        allItHad(x, 25, 9, 25, 32 * 61 + 16 * 58);
        allItHad(x, 25, 9, 20, 16);
        allItHad(x, 25, 9, 30, 0);
        allItHad(x, 59, 0, 59, 32 * 61 + 16 * 2);
        allItHad(x, 59, 0, 60, 0);
        allItHad(x, 60, 0, 60, 32 * 61 + 16);
        allItHad(x, 999, 9, 600, 32 * 61 + 16);
        allItHad(x, 999, 9, 999, 0);
    }

    private static void allItHad(CandleDebts x, int wax, int draught, int lost, int fit) {
        x.candle(5, wax, 0, 1, 5);
        x.draught(5, draught);
        x.seen(5, lost);
        due("lost " + lost + " of " + wax + ", DRAUGHT " + draught, x.sneezes(-1), fit);
        x.forget();
    }

    private static void sneezesInOrder() {
        doc.of("Terms 4", "SNEEZES: 1000 times the window, 10 times t, and d, by which all SIGHTS are so: how many; the i-th (rising).");
        CandleDebts x = new CandleDebts();
        due("without SIGHTS", x.sneezes(-1), 2928);
        int[] places = {0, 1, 3, 4, 5, 243, 244, 247, 248, 2923, 2924, 2927};
        int[] fit = {0, 1, 3, 10, 11, 603, 1000, 1003, 1010, 11593, 11600, 11603};
        for (int i = 0; i < places.length; i++) {
            due("sneezes(" + places[i] + ")", x.sneezes(places[i]), fit[i]);
        }
        for (int i : new int[] {2928, MOST, -2, LEAST}) {
            due("sneezes(" + i + ")", x.sneezes(i), NONE);
        }
        x.candle(0, 2, 0, 1, 5);
        x.seen(0, 2);
        int last = -1;
        for (int i = 0; i < 300; i++) {
            int next = x.sneezes(i);
            due("rising at " + i, next > last ? 1 : 0, 1);
            last = next;
        }
    }

    private static void look() {
        doc.of("Terms 4", "LOOK: the CANDLE to look at next, so that, whatever it lost, fewest of these are left at the most: the least; how many.");
        CandleDebts x = new CandleDebts();
        due("nothing to be seen: the least", x.look(0), 0);
        due("nothing to be seen: all", x.look(1), 2928);
        x.candle(1, 999, 0, 1, 5);
        due("the second one", x.look(0), 1);
        due("the second one", x.look(1), 2928 - 13 * 60);
        x.candle(1, 0, 0, 1, 5);
        x.candle(6, 999, 0, 1, 5);
        due("the one that tells", x.look(0), 6);
        due("the one that tells", x.look(1), 2928 - 16 * 60);
        x.candle(5, 999, 0, 1, 5);
        due("two alike: the least", x.look(0), 5);
        due("two alike", x.look(1), 2928 - 16 * 60);
        x.candle(5, 60, 0, 1, 5);
        due("just an hour of WAX", x.look(0), 5);
        x.candle(5, 59, 0, 1, 5);
        due("a minute less", x.look(0), 6);
        x.seen(6, 4);
        x.seen(5, 59);
        due("four are left", x.sneezes(-1), 4);
        x.candle(11, 999, 0, 1, 5);
        x.candle(9, 999, 0, 1, 5);
        x.candle(8, 999, 0, 1, 5);
        due("halves of what is left", x.look(0), 9);
        due("halves of what is left", x.look(1), 2);
        lookAtTheEndOfTheHour();
    }

    private static void lookAtTheEndOfTheHour() {
        for (int lost : new int[] {57, 58, 59}) {
            CandleDebts x = new CandleDebts();
            for (int c : new int[] {2, 3, 4, 5, 7, 8}) {
                x.candle(c, 999, 0, 1, 5);
            }
            x.seen(5, lost);
            due("sixteen are left, lost " + lost, x.sneezes(-1), 16);
            due("the least of two that part them alike, lost " + lost, x.look(0), 3);
            due("nine of them, lost " + lost, x.look(1), 9);
        }
    }

    // ---- 4 SNUFF

    private static void snuff() {
        doc.of("Terms 4", "SNUFF: two by turns snuff a CANDLE that is LIT; those beside it, which are LIT, go out with it; who can not has lost:"
                + " whether who begins can win (1, 0); which he snuffs first for it, the least (NONE).");
        snuffs(0, 0, NONE);
        snuffs(0b000000000001, 1, 0);
        snuffs(0b100000000000, 1, 11);
        snuffs(0b110000000000, 1, 10);
        snuffs(0b000000000111, 1, 1);
        snuffs(0b000000000101, 0, NONE);
        snuffs(0b100000000001, 0, NONE);
        snuffs(0b000000001111, 0, NONE);
        snuffs(0b000000010101, 1, 0);
        snuffs(0b000000011111, 1, 2);
        snuffs(0b000000011011, 0, NONE);
        snuffs(0b000000110111, 1, 0);
        snuffs(0b110111110111, 0, NONE);
        snuffs(0b111111110111, 1, 1);
        snuffs(0b111101111111, 1, 1);
        snuffs(0b111011111101, 1, 10);
        snuffs(0b111110111111, 1, 8);
        wholeRows();
    }

    /** Rows of one to twelve, all of the street the last. */
    private static void wholeRows() {
        int[] first = {0, 0, 1, NONE, 2, 0, 1, NONE, 4, 0, 1, 3};
        for (int row = 1; row <= 12; row++) {
            snuffs((1 << row) - 1, first[row - 1] == NONE ? 0 : 1, first[row - 1]);
        }
    }

    private static void snuffs(int lit, int wins, int first) {
        CandleDebts x = Streets.lit(lit, 9);
        due("snuff(0) of " + Integer.toBinaryString(lit), x.snuff(0), wins);
        due("snuff(1) of " + Integer.toBinaryString(lit), x.snuff(1), first);
    }

    private static void nothingIsSnuffed() {
        doc.of("Terms 4", "Nothing is snuffed in fact.");
        CandleDebts x = Streets.lit(0b11011, 9);
        String ahead = Streets.all(x);
        x.snuff(0);
        x.snuff(1);
        doc.same("all", Streets.all(x), ahead);
    }

    // ---- 4 MOTHS and the SHIP

    private static void fraction(String call, long upper, long lower, long wantUpper, long wantLower) {
        due(call + ", upper", upper, wantUpper);
        due(call + ", lower", lower, wantLower);
    }

    private static void moths(CandleDebts x, int candle, int t, int n, long upper, long lower) {
        String call = "moths(" + candle + ", " + t + ", " + n + ")";
        fraction(call, x.moths(candle, t, n, 0), x.moths(candle, t, n, 1), upper, lower);
    }

    private static void mothsOfOne() {
        doc.of("Terms 4", "MOTHS: each minute each CANDLE that is LIT is put out with t tenths (0 to 10), by itself, or burns on by its BURN:"
                + " that a told one, now LIT, burns behind n minutes (0 to 15)");
        CandleDebts x = Streets.lit(0b1, 16);
        moths(x, 0, 0, 15, 1, 1);
        moths(x, 0, 1, 15, 205891132094649L, 1000000000000000L);
        moths(x, 0, 9, 15, 1, 1000000000000000L);
        moths(x, 0, 10, 15, 0, 1);
        moths(x, 0, 10, 1, 0, 1);
        moths(x, 0, 10, 0, 1, 1);
        moths(x, 0, 0, 0, 1, 1);
        for (int bad : new int[] {LEAST, -1, 16, MOST}) {
            due("n " + bad, x.moths(0, 1, bad, 0), LOST + OUTSIDE);
        }
        for (int bad : new int[] {LEAST, -1, 11, MOST}) {
            due("t " + bad, x.moths(0, bad, 1, 0), LOST + OUTSIDE);
        }
        x = Streets.lit(0b1, 15);
        moths(x, 0, 0, 14, 1, 1);
        moths(x, 0, 0, 15, 0, 1);
        x.draught(0, 4);
        moths(x, 0, 5, 2, 1, 4);
        moths(x, 0, 5, 3, 0, 1);
    }

    private static void mothsOfAll() {
        doc.of("Terms 4", "the mean of how many of all that are LIT do.");
        CandleDebts x = new CandleDebts();
        x.candle(5, 9, 0, 1, 5);
        moths(x, -1, 5, 3, 0, 1);
        moths(x, -1, 0, 0, 0, 1);
        x = Streets.lit(4095, 16);
        moths(x, -1, 5, 0, 12, 1);
        moths(x, -1, 0, 15, 12, 1);
        moths(x, -1, 9, 15, 3, 250000000000000L);
        moths(x, -1, 1, 15, 617673396283947L, 250000000000000L);
        moths(x, -1, 10, 1, 0, 1);
        light(x, 11, 15, 5);
        moths(x, -1, 0, 15, 11, 1);
        moths(x, -1, 0, 14, 12, 1);
    }

    private static void ship(int p, int m, int n, long upper, long lower) {
        CandleDebts x = new CandleDebts();
        fraction("ship(" + p + ", " + m + ", " + n + ")", x.ship(p, m, n, 0), x.ship(p, m, n, 1), upper, lower);
    }

    private static void shipWax() {
        doc.of("Terms 4", "SHIP: a lantern had 1 to 200 WAX, each as likely, of which p (1 to 9) are gone a minute while there is any");
        ship(1, 0, 0, 1, 1);
        ship(1, 0, 1, 199, 200);
        ship(9, 0, 1, 191, 200);
        ship(9, 0, 22, 1, 100);
        ship(9, 0, 23, 0, 1);
        ship(2, 0, 99, 1, 100);
        CandleDebts x = new CandleDebts();
        for (int p : new int[] {LEAST, -1, 0, 10, MOST}) {
            due("p " + p, x.ship(p, 0, 0, 0), LOST + OUTSIDE);
        }
    }

    private static void shipMinutes() {
        doc.of("Terms 4", "it still burnt behind m minutes (0 to 99): that it does behind n more (0 to 99)");
        ship(1, 99, 0, 1, 1);
        ship(1, 99, 99, 2, 101);
        ship(1, 0, 99, 101, 200);
        ship(2, 99, 0, 1, 1);
        ship(2, 99, 1, 0, 1);
        ship(2, 98, 1, 1, 2);
        ship(7, 28, 0, 1, 1);
        CandleDebts x = new CandleDebts();
        for (int bad : new int[] {LEAST, -1, 100, MOST}) {
            due("m " + bad, x.ship(1, bad, 0, 0), LOST + OUTSIDE);
            due("n " + bad, x.ship(1, 0, bad, 0), LOST + OUTSIDE);
        }
    }

    private static void shipTooLong() {
        doc.of("Terms 4", "0, if it can not have burnt so long.");
        ship(4, 49, 0, 1, 1);
        ship(4, 50, 0, 0, 1);
        ship(9, 23, 0, 0, 1);
        ship(9, 99, 99, 0, 1);
    }

    // ---- 4 YEARS

    private static void yearSeeds() {
        doc.of("Terms 4", "A YEAR by a seed (0 to 9999) of m ACTS (1 to 99), from all as it is");
        CandleDebts x = new CandleDebts();
        light(x, 9, 50, 7);
        // 0 draws 74: j is asked
        due("seed 0", x.year(0, 1, 0), 7);
        light(x, 0, 999, 5);
        x.candle(1, 50, 0, 1, 5);
        // 9999 draws 29092: b is LIT from a
        due("seed 9999", x.year(9999, 1, 2), 3);
        x.candle(1, 0, 0, 1, 0);
        x.candle(9, 0, 0, 1, 0);
        // 1253 draws 98 ACTS ahead of a being asked, which is not snuffed till then
        due("98 ACTS", x.year(1253, 98, 0), 0);
        due("99 ACTS", x.year(1253, 99, 0), 5);
        for (int bad : new int[] {LEAST, -1, 10000, MOST}) {
            due("seed " + bad, x.year(bad, 1, 0), OUTSIDE);
        }
        for (int bad : new int[] {LEAST, -1, 0, 100, MOST}) {
            due("m " + bad, x.year(0, bad, 0), OUTSIDE);
        }
    }

    private static void yearDraws() {
        doc.of("Terms 4", "x becomes (75 x and 74) left over by 65537");
        // 874 draws 65624, left over 87: a minute; 873 draws 65549, left over 12: c is LIT from b
        CandleDebts x = Streets.lit(0b10, 50);
        x.candle(2, 50, 0, 1, 5);
        due("a minute", x.year(874, 1, 1), 99);
        due("a minute", x.year(874, 1, 2), 1);
        due("c from b", x.year(873, 1, 1), 100);
        due("c from b", x.year(873, 1, 2), 2);
        x = new CandleDebts();
        x.candle(0, 999, 0, 1, 5);
        // 5525 draws 0 as its 16th: a is LIT by a match, for the first time
        due("ahead of drawing 0", x.year(5525, 15, 2), 0);
        due("drawing 0", x.year(5525, 16, 2), 1);
    }

    private static void yearMatch() {
        doc.of("Terms 4", "of CANDLE x by 8 (cut) left over by 12: 0 it is LIT by a match");
        CandleDebts x = new CandleDebts();
        x.candle(0, 50, 0, 1, 5);
        x.candle(11, 50, 0, 1, 5);
        // 901 draws 2112: a; 1776 draws 2200: l
        due("a", x.year(901, 1, 2), 1);
        due("l", x.year(1776, 1, 2), 1);
        x.matches(0);
        due("no MATCHES", x.year(901, 1, 2), 0);
        x.matches(1);
        Streets.done(x, "a*");
        due("a, LIT", x.year(901, 1, 2), 1);
        x.matches(1);
        due("l, too", x.year(1776, 1, 2), 2);
    }

    private static void yearSnuffedAskedTrimmed() {
        doc.of("Terms 4", "1 snuffed, 2 asked, 3 TRIMMED");
        CandleDebts x = Streets.lit(0b1, 50);
        x.candle(1, 50, 0, 1, 5);
        // 1771 draws 1825: a is snuffed
        due("a is snuffed", x.year(1771, 1, 2), 0);
        Streets.done(x, "a>b");
        due("with b, JOINED", x.year(1771, 1, 2), 0);
        // 8 draws 674: a is asked
        due("a is asked", x.year(8, 1, 0), 10);
        x.purse(1, 3);
        due("a is asked, PURSE 3", x.year(8, 1, 0), 3);
        x = Streets.lit(0b1, 50);
        x.draught(0, 5);
        // 942 draws 5187: a is TRIMMED, and 61414: a minute
        due("a is TRIMMED", x.year(942, 2, 1), 45);
        Streets.done(x, Streets.times(9, "a^"));
        due("not ten times", x.year(942, 2, 1), 49);
    }

    private static void yearNextOne() {
        doc.of("Terms 4", "4 the next one (east of it, if there is one) is LIT from it");
        CandleDebts x = new CandleDebts();
        light(x, 10, 50, 5);
        x.candle(11, 50, 0, 1, 5);
        x.candle(9, 50, 0, 1, 5);
        x.candle(0, 50, 0, 1, 5);
        // 897 draws 1812: of k; 22 draws 1724: of l
        due("l from k", x.year(897, 1, 2), 2);
        x.candle(10, 50, 0, 1, 5);
        light(x, 11, 50, 5);
        due("none is east of l", x.year(22, 1, 2), 1);
        due("k is not LIT", x.year(897, 1, 2), 1);
    }

    private static void yearDraught() {
        doc.of("Terms 4", "5 the DRAUGHT there is x by 96 (cut) left over by 10");
        CandleDebts x = Streets.lit(0b1, 50);
        // 305 draws 22949: 9 at a, then a minute; 7980 draws 8741: 1 at a, then a minute
        due("DRAUGHT 9", x.year(305, 2, 1), 40);
        due("DRAUGHT 1", x.year(7980, 2, 1), 48);
        x.draught(0, 9);
        due("9 already", x.year(305, 2, 1), 40);
        due("1 now", x.year(7980, 2, 1), 48);
        x = Streets.lit(0b100000000000, 50);
        // 1180 draws 23037: 9 at l, then a minute
        due("DRAUGHT 9 at l", x.year(1180, 2, 1), 40);
    }

    private static void yearMinute() {
        doc.of("Terms 4", "6, 7 a minute");
        CandleDebts x = Streets.lit(0b1, 1);
        // 887 draws 1062, left over by 8: 6; 1757 draws 775, left over by 8: 7
        due("6, WAX", x.year(887, 1, 1), 0);
        due("6, LIT", x.year(887, 1, 2), 0);
        due("7, WAX", x.year(1757, 1, 1), 0);
        due("7, LIT", x.year(1757, 1, 2), 0);
    }

    private static void yearIfThatCanBe() {
        doc.of("Terms 4", "each if that can be: what was paid; WAX of all together; how many are LIT.");
        CandleDebts x = new CandleDebts();
        due("nothing can be, paid", x.year(0, 99, 0), 0);
        due("nothing can be, WAX", x.year(0, 99, 1), 0);
        due("nothing can be, LIT", x.year(0, 99, 2), 0);
        for (int c = 0; c < 12; c++) {
            x.candle(c, 999, 0, 1, 5);
        }
        x.matches(0);
        due("WAX of all, not LIT too", x.year(0, 99, 1), 11988);
        Streets.light(x, 1, 999, 50);
        x.matches(1);
        Streets.light(x, 1, 999, 50);
        x.purse(0, 9950);
        // 8 draws 674: a is asked
        due("the CREDITOR would have too much", x.year(8, 1, 0), 0);
        x.purse(0, 9949);
        due("the CREDITOR has 9999", x.year(8, 1, 0), 50);
    }

    private static void nothingIsDone() {
        doc.of("Terms 4", "Nothing is DONE in fact.");
        CandleDebts x = Streets.lit(0b111111, 50);
        x.draught(2, 3);
        Streets.write(x, "a-");
        String ahead = Streets.all(x);
        for (int what = 0; what < 3; what++) {
            x.year(77, 99, what);
        }
        doc.same("all", Streets.all(x), ahead);
    }

    public static void main(String[] args) throws IOException {
        doc = new Sentences();
        lasts();
        joined();
        may();
        net();
        roundAsksAt();
        roundInTime();
        roundMinutes();
        roundFirstWay();
        accountsMinutes();
        accountsInTime();
        accountsLeastBits();
        jubileeFewest();
        jubileeWithoutWax();
        trims();
        sneezeHour();
        sneezeMinute();
        sneezeReach();
        sights();
        sneezesInOrder();
        look();
        snuff();
        nothingIsSnuffed();
        mothsOfOne();
        mothsOfAll();
        shipWax();
        shipMinutes();
        shipTooLong();
        yearSeeds();
        yearDraws();
        yearMatch();
        yearSnuffedAskedTrimmed();
        yearNextOne();
        yearDraught();
        yearMinute();
        yearIfThatCanBe();
        nothingIsDone();
        doc.allQuoted("Terms 2", "LASTS, now", "");
        doc.allQuoted("Terms 3", "", "");
        doc.allQuoted("Terms 4", "", "");
        doc.end();
    }
}
