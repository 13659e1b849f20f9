import java.util.Arrays;
import java.util.Random;

/**
 * Any numbers in any state: no call throws, and a call that only asks, or is refused, changes nothing
 * (LANGUAGE.md, rule 7; the document's Terms).
 */
public final class ExtremesTest {
    private static final int[] EDGES = {
        Integer.MIN_VALUE, Integer.MIN_VALUE + 1, -1000000, -4096, -100, -13, -12, -7, -6, -2, -1, 0, 1, 2, 3, 4, 5, 6, 7,
        8, 9, 10, 11, 12, 13, 15, 16, 32, 33, 42, 46, 59, 60, 61, 97, 98, 99, 100, 101, 108, 119, 126, 127, 217, 218, 219,
        220, 512, 998, 999, 1000, 2927, 2928, 4095, 4096, 9998, 9999, 10000, 65536, 65537, 28633116, 1000000000,
        Integer.MAX_VALUE - 1, Integer.MAX_VALUE,
    };
    private static final int CALLS = 31;
    private static int wrong = 0;

    private static int edge(Random r) {
        return r.nextInt(3) == 0 ? r.nextInt(12) : EDGES[r.nextInt(EDGES.length)];
    }

    private static long call(CandleDebts x, int which, int[] a) {
        switch (which) {
            case 0: return x.candle(a[0], a[1], a[2], a[3], a[4]);
            case 1: return x.draught(a[0], a[1]);
            case 2: return x.purse(a[0], a[1]);
            case 3: return x.matches(a[0]);
            case 4: return x.say(a[0]);
            case 5: return x.wipe();
            case 6: return x.done();
            case 7: return x.seen(a[0], a[1]);
            case 8: return x.forget();
            case 9: return x.image(a[0]);
            case 10: return x.restore(a[0]);
            case 11: return x.fault();
            case 12: return x.judge(a[0]);
            case 13: return x.behind(a[0], a[1]);
            case 14: return x.has(a[0]);
            case 15: return x.then(a[0]);
            case 16: return x.lasts(a[0]);
            case 17: return x.joined(a[0]);
            case 18: return x.may(a[0]);
            case 19: return x.net(a[0]);
            case 20: return x.round(a[0], a[1]);
            case 21: return x.accounts(a[0], a[1]);
            case 22: return x.jubilee(a[0]);
            case 23: return x.trims(a[0], a[1]);
            case 24: return x.sneezes(a[0]);
            case 25: return x.look(a[0]);
            case 26: return x.snuff(a[0]);
            case 27: return x.moths(a[0], a[1], a[2], a[3]);
            case 28: return x.ship(a[0], a[1], a[2], a[3]);
            case 29: return x.year(a[0], a[1], a[2]);
            default: return x.told(a[0]);
        }
    }

    private static int[] state(CandleDebts x) {
        int[] all = new int[260];
        for (int what = 0; what < 220; what++) {
            all[what] = x.told(what);
        }
        for (int c = 0; c < 12; c++) {
            all[220 + c] = x.joined(c);
        }
        all[240] = x.sneezes(-1);
        all[241] = x.fault();
        return all;
    }

    private static void check(int run, CandleDebts x, int which, int[] a) {
        String told = "run " + run + ": call " + which + " with " + Arrays.toString(a);
        int[] ahead = state(x);
        try {
            long got = call(x, which, a);
            boolean changes = which <= 10 && got >= 0;
            if (!changes && !Arrays.equals(ahead, state(x))) {
                wrong++;
                System.out.println(told + " answered " + got + " and changed something");
            }
        } catch (RuntimeException | Error e) {
            wrong++;
            System.out.println(told + " threw " + e);
        }
    }

    private static void say(CandleDebts x, Random r) {
        String signs = "abcdefghijkl*-!^>>w.0123456789";
        String[] whole = {"a*", "b*", "a>b", "l*", "l>k", "k!", "a!", ".", "wa9", "wl0", "b-", "c^"};
        String text = r.nextInt(4) == 0 ? "" + signs.charAt(r.nextInt(signs.length())) : whole[r.nextInt(whole.length)];
        for (int i = 0; i < text.length(); i++) {
            x.say(text.charAt(i));
        }
    }

    private static void run(int run) {
        Random r = new Random(run);
        CandleDebts x = new CandleDebts();
        for (int step = 0; step < 400; step++) {
            int[] a = {edge(r), edge(r), edge(r), edge(r), edge(r)};
            int which = r.nextInt(CALLS);
            check(run, x, which, a);
            if (r.nextInt(3) == 0) {
                x.candle(r.nextInt(12), r.nextInt(1000), r.nextInt(6), r.nextInt(6), r.nextInt(1000));
            }
            say(x, r);
            if (x.judge(0) != CandleDebts.NONE && r.nextInt(4) == 0) {
                x.wipe();
            }
        }
    }

    public static void main(String[] args) {
        for (int run = 0; run < 60; run++) {
            run(run);
        }
        if (wrong != 0) {
            System.exit(1);
        }
    }
}
