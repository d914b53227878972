import java.util.Random;

/**
 * What he should do is what turns out best: every row of paces is turned, each on an object of its
 * own, and what comes of it is compared with what the advice had told ahead.
 */
public final class LivedTest {
    private static final int NONE = -9;
    private static final int DAYS = 4;

    // What was told and done ahead of the rows: the same for all of a run.
    private String text = "";
    private int turned = 0;
    private int ahead = 0;
    private int correction = 0;

    // The best that has come of the rows so far, and the first pace by which it came.
    private int soonest = NONE;
    private final int[] harm = new int[DAYS + 1];
    private final int[] harmPace = new int[DAYS + 1];
    private final int[] freePace = new int[DAYS + 1];
    private int candles = NONE;
    private int candlesPace = NONE;
    private int lowest = NONE;

    private TowerPrisoner begun() {
        TowerPrisoner x = Check.typed(new TowerPrisoner(), text);
        x.sentence();
        for (int i = 0; i < turned; i++) {
            x.winds(ahead, 0);
        }
        if (correction != 0) {
            x.corrects(correction);
        }
        return x;
    }

    private static boolean isOver(TowerPrisoner x) {
        return x.now(6) == 1;
    }

    private static boolean isFree(TowerPrisoner x) {
        return x.now(7) == 1;
    }

    private void isFreeBehind(int k, int first, int harmMore) {
        if (soonest == NONE || k < soonest) {
            soonest = k;
        }
        for (int n = k; n <= DAYS; n++) {
            if (harm[n] == NONE || harmMore < harm[n]) {
                harm[n] = harmMore;
                harmPace[n] = first;
            }
            if (freePace[n] == NONE) {
                freePace[n] = first;
            }
        }
    }

    private void row(int row) {
        TowerPrisoner x = begun();
        int harmBefore = x.now(4);
        int candlesBefore = x.now(3);
        int first = row % 6 - 2;
        boolean safe = true;
        int rest = row;
        for (int k = 1; k <= DAYS && !isOver(x) && !isFree(x); k++) {
            if (x.winds(rest % 6 - 2, 0) < 0) {
                return;
            }
            rest /= 6;
            safe = safe && Math.abs(x.now(2)) <= x.count(3) && x.now(5) == 0;
            if (isFree(x)) {
                isFreeBehind(k, first, x.now(4) - harmBefore);
            }
        }
        lowest = lowest == NONE ? first : Math.min(lowest, first);
        if (safe && x.now(3) - candlesBefore > candles) {
            candles = x.now(3) - candlesBefore;
            candlesPace = first;
        }
    }

    /** All rows, those of the lowest first pace first. */
    private void rows() {
        soonest = NONE;
        candles = NONE;
        candlesPace = NONE;
        lowest = NONE;
        for (int n = 0; n <= DAYS; n++) {
            harm[n] = NONE;
            harmPace[n] = NONE;
            freePace[n] = NONE;
        }
        for (int first = 0; first < 6; first++) {
            for (int row = first; row < 6 * 6 * 6 * 6; row += 6) {
                row(row);
            }
        }
    }

    private int caughtBehind(int pace) {
        TowerPrisoner x = begun();
        for (int k = 0; k <= DAYS; k++) {
            if (Math.abs(x.now(2)) > x.count(3)) {
                return k;
            }
            if (x.winds(pace, 0) < 0) {
                return NONE;
            }
        }
        return NONE;
    }

    private void nobodyChecks() {
        rows();
        TowerPrisoner x = begun();
        String of = " of \"" + text + "\"";
        Check.due("soonest()" + of, x.soonest(), soonest);
        for (int n = 0; n <= DAYS; n++) {
            Check.due("least(" + n + ", 0)" + of, x.least(n, 0), harm[n]);
            Check.due("least(" + n + ", 1)" + of, x.least(n, 1), harmPace[n]);
        }
        Check.due("safe(0)" + of, x.safe(0), candles);
        Check.due("safe(1)" + of, x.safe(1), candlesPace);
        for (int pace = -2; pace <= 3; pace++) {
            Check.due("catches(" + pace + ")" + of, x.catches(pace), caughtBehind(pace));
        }
    }

    /** By suns of 0 and 10 alone all is sure, so that a chance is none or whole. */
    private void allIsSure() {
        rows();
        TowerPrisoner x = begun();
        String of = " of \"" + text + "\"";
        for (int n = 1; n <= DAYS; n++) {
            boolean can = freePace[n] != NONE;
            Check.due("chance(" + n + ", 0)" + of, x.chance(n, 0), can ? 1 : 0);
            Check.due("chance(" + n + ", 1)" + of, x.chance(n, 1), 1);
            Check.due("chance(" + n + ", 2)" + of, x.chance(n, 2), can ? freePace[n] : lowest);
        }
    }

    private void tell(Random random, boolean checked) {
        StringBuilder s = new StringBuilder();
        turned = random.nextInt(3);
        ahead = random.nextInt(4) - 1;
        correction = random.nextInt(13) - 6;
        int days = turned + 1 + random.nextInt(DAYS);
        for (int d = 0; d < days; d++) {
            s.append(checked && d >= turned && random.nextBoolean() ? "d10;" : "d0;");
        }
        for (int b = 0; b < 5; b++) {
            s.append('b').append(random.nextInt(6)).append(' ').append(random.nextInt(2));
            s.append(' ').append(random.nextInt(6)).append(' ').append(1 + random.nextInt(20));
            s.append(';');
        }
        for (int t = 0; t < 3; t++) {
            s.append('h').append(1 + random.nextInt(9)).append(' ').append(random.nextInt(2));
            s.append(';');
        }
        s.append('r').append(1 + turned * (4 + ahead) + random.nextInt(24)).append(";l");
        s.append(random.nextInt(7)).append(";a").append(random.nextInt(10)).append(';');
        text = s.toString();
    }

    public static void main(String[] args) {
        Random random = new Random(20261119);
        LivedTest lived = new LivedTest();
        for (int run = 0; run < 60; run++) {
            lived.tell(random, false);
            lived.nobodyChecks();
            lived.tell(random, true);
            lived.allIsSure();
        }
        Check.end();
    }
}
