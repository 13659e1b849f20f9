/** Streets and nights for tests; what all of an object is. */
final class Streets {
    private Streets() {
    }

    static void write(CandleDebts x, String text) {
        x.wipe();
        for (int i = 0; i < text.length(); i++) {
            x.say(text.charAt(i));
        }
    }

    static int done(CandleDebts x, String text) {
        write(x, text);
        return x.done();
    }

    static String times(int n, String text) {
        return text.repeat(n);
    }

    /** The CANDLES of a set with so much WAX each, ONE 1 owes ONE 0 a SUM of 10 for each; all are LIT. */
    static CandleDebts lit(int set, int wax) {
        CandleDebts x = new CandleDebts();
        light(x, set, wax, 10);
        return x;
    }

    static void light(CandleDebts x, int set, int wax, int sum) {
        StringBuilder text = new StringBuilder();
        for (int c = 0; c < 12; c++) {
            if ((set >> c & 1) != 0) {
                x.candle(c, wax, 0, 1, sum);
                text.append((char) ('a' + c)).append('*');
            }
        }
        done(x, text.toString());
    }

    /** All that can be told of an object, in 122 calls. */
    static String all(CandleDebts x) {
        StringBuilder all = new StringBuilder();
        for (int what = 0; what < 5; what++) {
            all.append(x.told(what)).append(' ');
        }
        for (int one = 0; one < 6; one++) {
            all.append(x.told(10 + one)).append(' ');
        }
        for (int c = 0; c < 12; c++) {
            for (int what = 0; what < 8; what++) {
                all.append(x.told(100 + 10 * c + what)).append(' ');
            }
            all.append(x.joined(c)).append(' ');
        }
        return all.append(x.fault()).append(' ').append(x.judge(0)).append(' ').append(x.sneezes(-1)).toString();
    }
}
