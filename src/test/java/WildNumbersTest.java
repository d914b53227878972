/** Whatever numbers are given in whatever state: no call throws, and none that is refused changes. */
public final class WildNumbersTest {
    private static final int[] WILD = {Integer.MIN_VALUE, Integer.MIN_VALUE + 1, -1000001, -1000000,
        -257, -100, -15, -10, -9, -3, -2, -1, 0, 1, 2, 3, 4, 5, 6, 7, 8, 9, 10, 13, 14, 15, 19, 48,
        59, 98, 99, 100, 149, 150, 255, 256, 9999, 10000, 1 << 20, 1 << 29, 1 << 30,
        Integer.MAX_VALUE - 9, Integer.MAX_VALUE - 1, Integer.MAX_VALUE};
    private static final String[] TEXTS = {"", "d0;", "d5;d5;d5;r6;",
        "d10;d3;d0;d7;d1;d10;d10;d10;d10;d10;d10;d10;d10;d10;b0 0 5 20;b13 1 0 20;h9 0;h9 1;l0;a9;",
        "d0;d0;d0;d0;d0;d0;d0;d0;d0;d0;d0;d0;d0;d0;r60;h1 0;h2 0;h3 1;h4 1;b1 1 0 9;b2 1 0 9;l6;"};

    private static long seed = 7;

    private static int wild() {
        seed = seed * 6364136223846793005L + 1442695040888963407L;
        return WILD[(int) ((seed >>> 33) % WILD.length)];
    }

    private static int upTo(int most) {
        seed = seed * 6364136223846793005L + 1442695040888963407L;
        return (int) ((seed >>> 33) % (most + 1));
    }

    private static void call(TowerPrisoner x, int which) {
        switch (which) {
            case 0: x.type(wild()); break;
            case 1: x.clear(); break;
            case 2: x.sentence(); break;
            case 3: x.sun(wild()); break;
            case 4: x.bribe(wild(), wild()); break;
            case 5: x.trade(wild(), wild()); break;
            case 6: x.winds(wild(), wild()); break;
            case 7: x.watches(); break;
            case 8: x.pays(wild(), wild()); break;
            case 9: x.corrects(wild()); break;
            case 10: x.undo(); break;
            case 11: x.now(wild()); break;
            case 12: x.soonest(); break;
            case 13: x.chance(wild(), wild()); break;
            case 14: x.safe(wild()); break;
            case 15: x.least(wild(), wild()); break;
            case 16: x.catches(wild()); break;
            case 17: x.hears(wild(), wild(), wild()); break;
            case 18: x.forget(); break;
            case 19: x.could(wild()); break;
            case 20: x.ways(); break;
            case 21: x.ask(); break;
            case 22: x.mark(wild(), wild()); break;
            case 23: x.keep(wild()); break;
            case 24: x.back(wild()); break;
            case 25: x.count(wild()); break;
            default: x.winds(upTo(5) - 2, upTo(9999));
        }
    }

    private static long[] state(TowerPrisoner x) {
        long[] s = new long[40];
        int i = 0;
        for (int what = 0; what < 8; what++) {
            s[i++] = x.now(what);
            s[i++] = x.count(what);
        }
        for (int t = 0; t < 4; t++) {
            s[i++] = x.trade(t, 2);
        }
        for (int d = 0; d < 14; d++) {
            s[i++] = x.could(d);
        }
        s[i] = x.trace();
        return s;
    }

    private static boolean wildIsRefused(TowerPrisoner x, int n) {
        boolean bad = x.type(n) == -1 && x.sun(n) == -1 && x.trade(n, 0) == -1
                && x.trade(0, n) == -1 && x.winds(n, 0) == -1 && x.winds(0, n) == -1
                && x.pays(n, 1) == -1 && x.pays(0, n) == -1 && x.catches(n) == -1
                && x.hears(n, 0, 0) == -1 && x.hears(0, n, 0) == -1 && x.hears(0, 0, n) == -1
                && x.could(n) == -1 && x.keep(n) == -1 && x.back(n) == -1 && x.count(n) == -1;
        int no = TowerPrisoner.NO;
        return bad && x.bribe(n, 0) == no && x.bribe(0, n) == no && x.corrects(n) == no
                && x.now(n) == no && x.chance(n, 0) == no && x.chance(0, n) == no
                && x.safe(n) == no && x.least(n, 0) == no && x.least(0, n) == no
                && x.mark(n, 0) == no && x.mark(0, n) == no;
    }

    private static void refused() {
        for (String text : TEXTS) {
            for (int n : WILD) {
                TowerPrisoner x = Check.told(text);
                x.winds(2, 3);
                x.hears(3, 3, 3);
                long[] before = state(x);
                if (n < -10 || n > 9999) {
                    Check.holds("refused: " + n, wildIsRefused(x, n));
                }
                Check.holds("nothing changed", java.util.Arrays.equals(before, state(x)));
            }
        }
    }

    private static void tell(TowerPrisoner x) {
        x.clear();
        Check.typed(x, TEXTS[upTo(TEXTS.length - 1)]);
        x.sentence();
    }

    /** A text has 100 bytes at most here: two of them, and 512 calls are not gone. */
    private static void within512Calls() {
        TowerPrisoner x = new TowerPrisoner();
        for (int i = 0; i < 300; i++) {
            if (i % 150 == 0) {
                tell(x);
            }
            call(x, upTo(34));
        }
        Check.holds("error", Math.abs(x.now(2)) <= 9);
        Check.holds("rest", x.now(1) >= 0 && x.now(1) <= 99);
        Check.holds("candles", x.now(3) >= 0 && x.now(3) <= 999);
        Check.holds("the day", x.now(0) >= 0 && x.now(0) <= x.count(0));
    }

    /** What is answered behind 512 calls is free, but nothing may be thrown there either. */
    private static void farBeyond() {
        TowerPrisoner x = new TowerPrisoner();
        for (int i = 0; i < 3000; i++) {
            if (i % 150 == 0) {
                tell(x);
            }
            call(x, upTo(34));
        }
        Check.holds("it ended", true);
    }

    public static void main(String[] args) {
        refused();
        for (int run = 0; run < 5000; run++) {
            within512Calls();
        }
        for (int run = 0; run < 100; run++) {
            farBeyond();
        }
        for (String text : TEXTS) {
            Check.holds("a hundred bytes at most", text.length() <= 100);
        }
        Check.end();
    }
}
