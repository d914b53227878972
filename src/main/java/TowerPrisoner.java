/**
 * A man in the tower turns the hands of the clock until they have shown enough; this class tells
 * his sentence, keeps what he does, and answers what he should do and what the clock truly was.
 */
public final class TowerPrisoner {
    public static final int BAD = -1, STATE = -2, FULL = -3, NONE = -9;
    public static final int NO = -1000000;

    private static final int TEXT_MOST = 150;
    private static final int DAYS_MOST = 14;
    private static final int BRIBES_MOST = 6;
    private static final int TRADES_MOST = 4;
    private static final int SLOWEST = -2;
    private static final int QUICKEST = 3;
    private static final int ERROR_MOST = 9;
    private static final int ERRORS = 19;
    private static final int SHOWN_A_DAY = 4;
    private static final int REST_MOST = 99;

    private final Text text = new Text();
    // Two of them, so that a text with a fault can be read without a change to what is told.
    private Told told = new Told();
    private Told spare = new Told();
    private final Story story = new Story();
    private final Story firstImage = new Story();
    private final Story secondImage = new Story();
    private final Plan plan = new Plan();
    private final Odds odds = new Odds();
    private final Hearsay hearsay = new Hearsay();
    private long asked = 0;

    public TowerPrisoner() {
        story.begin(told.rest);
    }

    // ---- the sentence

    public int type(int c) {
        if (c < 0 || c > 255) {
            return BAD;
        }
        return text.add(c) ? text.length : FULL;
    }

    public int clear() {
        int had = text.length;
        text.length = 0;
        return had;
    }

    public int sentence() {
        int answer = text.readInto(spare);
        if (answer < 0) {
            return answer;
        }
        Told former = told;
        told = spare;
        spare = former;
        text.length = 0;
        story.begin(told.rest);
        firstImage.kept = false;
        secondImage.kept = false;
        hearsay.drop();
        return answer;
    }

    public int sun(int d) {
        return told.sunOf(d);
    }

    public int bribe(int b, int what) {
        if (b < 0 || b >= told.bribesTold || what < 0 || what > 3) {
            return NO;
        }
        return told.ofBribe(b, what);
    }

    public int trade(int t, int what) {
        if (!told.hasTrade(t) || what < 0 || what > 2) {
            return BAD;
        }
        return what == 2 ? story.harmOf(t) : told.ofTrade(t, what);
    }

    // ---- what is done

    public int winds(int pace, int z) {
        if (!isPace(pace) || z < 0 || z > 9999) {
            return BAD;
        }
        if (story.isEnded(told) || isBeyond(story.error() + pace)) {
            return STATE;
        }
        return story.turn(told, pace, z);
    }

    public int watches() {
        return story.isEnded(told) ? STATE : story.watch(told);
    }

    public int pays(int t, int n) {
        if (!told.hasTrade(t) || n < 1 || n > 99) {
            return BAD;
        }
        return story.candles() < n ? STATE : story.pay(t, n);
    }

    public int corrects(int n) {
        if (n < -ERROR_MOST || n > ERROR_MOST || n == 0) {
            return NO;
        }
        if (story.isEnded(told) || isBeyond(story.error() + n)) {
            return NO;
        }
        return story.correct(n);
    }

    public int undo() {
        return story.recall() ? story.known : STATE;
    }

    public int now(int what) {
        switch (what) {
            case 0: return story.day();
            case 1: return story.rest();
            case 2: return story.error();
            case 3: return story.candles();
            case 4: return story.harmOfAll();
            case 5: return story.found();
            case 6: return story.isOver(told) ? 1 : 0;
            case 7: return story.isFree() ? 1 : 0;
            default: return NO;
        }
    }

    // ---- what he should do

    public int soonest() {
        return story.soonestFree(told);
    }

    public int chance(int n, int what) {
        if (n < 0 || n > 8 || what < 0 || what > 2) {
            return NO;
        }
        odds.weigh(told, story, n);
        if (what == 2) {
            return odds.pace;
        }
        return what == 0 ? odds.upper : odds.lower;
    }

    public int safe(int what) {
        if (what < 0 || what > 1) {
            return NO;
        }
        plan.forCandles(told, story);
        if (what == 1) {
            return plan.pace;
        }
        return plan.most <= NO ? NONE : plan.most;
    }

    public int least(int n, int what) {
        if (n < 0 || n > DAYS_MOST || what < 0 || what > 1) {
            return NO;
        }
        plan.forFreedom(told, story, n);
        if (what == 1) {
            return plan.pace;
        }
        return plan.most <= NO ? NONE : -plan.most;
    }

    public int catches(int pace) {
        return isPace(pace) ? story.caughtBehind(told, pace) : BAD;
    }

    // ---- what it was truly

    public int hears(int day, int error, int w) {
        if (day < 0 || day >= DAYS_MOST || isBeyond(error) || w < 0 || w > 3) {
            return BAD;
        }
        return hearsay.add(day, error, w) ? hearsay.heard : FULL;
    }

    public int forget() {
        int had = hearsay.heard;
        hearsay.drop();
        return had;
    }

    public int could(int day) {
        return day < 0 || day >= DAYS_MOST ? BAD : hearsay.errorsBehind(day);
    }

    public int ways() {
        return hearsay.rows();
    }

    public int ask() {
        return hearsay.widestDay();
    }

    // ---- kinds, images

    public int mark(int kind, int t) {
        if (!told.hasTrade(t)) {
            return NO;
        }
        switch (kind) {
            case 0: return asTrade(t);
            case 1: return asBaker(t);
            case 2: return asCourt(t);
            case 3: return asSweetheart(t);
            case 4: return asWife(t);
            case 5: return asHen(t);
            default: return NO;
        }
    }

    public int keep(int image) {
        if (image < 0 || image > 1) {
            return BAD;
        }
        Story kept = image == 0 ? firstImage : secondImage;
        kept.copy(story);
        kept.kept = true;
        return story.day();
    }

    public int back(int image) {
        if (image < 0 || image > 1) {
            return BAD;
        }
        Story kept = image == 0 ? firstImage : secondImage;
        if (!kept.kept) {
            return STATE;
        }
        story.copy(kept);
        return story.day();
    }

    public int count(int what) {
        switch (what) {
            case 0: return told.days;
            case 1: return told.bribesTold;
            case 2: return told.tradesTold;
            case 3: return told.limit;
            case 4: return told.added;
            case 5: return hearsay.heard;
            case 6: return story.known;
            case 7: return text.length;
            default: return BAD;
        }
    }

    public long trace() {
        return asked;
    }

    private int asTrade(int t) {
        asked += 1;
        return told.ofTrade(t, 0);
    }

    private int asBaker(int t) {
        asked += 10;
        return asTrade(t) + story.harmOf(t);
    }

    private int asCourt(int t) {
        asked += 100;
        return asTrade(t) - story.error();
    }

    private int asSweetheart(int t) {
        asked += 1000;
        return asBaker(t) * 2;
    }

    private int asWife(int t) {
        asked += 10000;
        return asCourt(t) + t;
    }

    private int asHen(int t) {
        asked += 100000;
        return asTrade(t) + story.candles();
    }

    private static boolean isPace(int pace) {
        return pace >= SLOWEST && pace <= QUICKEST;
    }

    private static boolean isBeyond(int error) {
        return error < -ERROR_MOST || error > ERROR_MOST;
    }

    /** What a text has told; no call but sentence() changes it. */
    private static final class Told {
        final int[] suns = new int[DAYS_MOST];
        // Rows side by side, in the order in which bribe() and trade() ask for their parts.
        final int[] bribes = new int[4 * BRIBES_MOST];
        final int[] trades = new int[2 * TRADES_MOST];
        int days;
        int bribesTold;
        int tradesTold;
        int rest;
        int limit;
        int added;

        Told() {
            wipe();
        }

        void wipe() {
            days = 0;
            bribesTold = 0;
            tradesTold = 0;
            rest = 20;
            limit = 2;
            added = 3;
        }

        boolean hasTrade(int t) {
            return t >= 0 && t < tradesTold;
        }

        int sunOf(int d) {
            return d >= 0 && d < days && d < suns.length ? suns[d] : BAD;
        }

        int ofBribe(int b, int what) {
            int i = 4 * b + what;
            return i >= 0 && i < bribes.length ? bribes[i] : NO;
        }

        int ofTrade(int t, int what) {
            int i = 2 * t + what;
            return i >= 0 && i < trades.length ? trades[i] : BAD;
        }

        void addDay(int sun) {
            if (days >= 0 && days < suns.length) {
                suns[days] = sun;
                days++;
            }
        }

        void addBribe(int day, int side, int pace, int candles) {
            int i = 4 * bribesTold;
            if (i >= 0 && i + 3 < bribes.length) {
                bribes[i] = day;
                bribes[i + 1] = side;
                bribes[i + 2] = pace;
                bribes[i + 3] = candles;
                bribesTold++;
            }
        }

        void addTrade(int weight, int side) {
            int i = 2 * tradesTold;
            if (i >= 0 && i + 1 < trades.length) {
                trades[i] = weight;
                trades[i + 1] = side;
                tradesTold++;
            }
        }

        int candlesFor(int day, int pace) {
            int candles = 0;
            for (int b = 0; b < bribesTold; b++) {
                int bound = ofBribe(b, 2);
                boolean wanted = ofBribe(b, 1) == 0 ? pace <= bound : pace >= bound;
                if (ofBribe(b, 0) == day && wanted) {
                    candles += ofBribe(b, 3);
                }
            }
            return candles;
        }

        int harmTo(int t, int error) {
            int off = ofTrade(t, 1) == 0 ? -error : error;
            return off > 0 ? ofTrade(t, 0) * off : 0;
        }

        int harmToAll(int error) {
            int harm = 0;
            for (int t = 0; t < tradesTold; t++) {
                harm += harmTo(t, error);
            }
            return harm;
        }
    }

    /** The text as it is typed, and the reading of it. */
    private static final class Text {
        private static final int NO_FAULT = -1;
        private static final int END = 0, LETTERS = 1, NUMBER = 2, STOP = 3, OTHER = 4;

        final int[] bytes = new int[TEXT_MOST];
        int length = 0;
        int place = 0;
        // Of the latest token; its value is a number's, or the letter that stands alone.
        int start = 0;
        int kind = END;
        int value = 0;
        int fault = NO_FAULT;
        boolean restTold = false;
        boolean limitTold = false;
        boolean addedTold = false;

        boolean add(int c) {
            if (length < 0 || length >= bytes.length) {
                return false;
            }
            bytes[length] = c;
            length++;
            return true;
        }

        int readInto(Told told) {
            begin(told);
            int items = 0;
            nextToken();
            while (kind != END && fault == NO_FAULT && items < TEXT_MOST) {
                switch (kind == LETTERS ? value : 0) {
                    case 'd': readDay(told); break;
                    case 'b': readBribe(told); break;
                    case 'h': readTrade(told); break;
                    case 'r': readRest(told); break;
                    case 'l': readLimit(told); break;
                    case 'a': readAdded(told); break;
                    default: fault = start;
                }
                items++;
                nextToken();
            }
            return fault == NO_FAULT ? items : -10 - fault;
        }

        private void begin(Told told) {
            told.wipe();
            place = 0;
            fault = NO_FAULT;
            restTold = false;
            limitTold = false;
            addedTold = false;
        }

        private void readDay(Told told) {
            refuseIf(told.days >= DAYS_MOST);
            int sun = number(0, 10);
            if (stops()) {
                told.addDay(sun);
            }
        }

        private void readBribe(Told told) {
            refuseIf(told.bribesTold >= BRIBES_MOST);
            int day = number(0, 13);
            int side = number(0, 1);
            int pace = number(0, 5) - 2;
            int candles = number(1, 20);
            if (stops()) {
                told.addBribe(day, side, pace, candles);
            }
        }

        private void readTrade(Told told) {
            refuseIf(told.tradesTold >= TRADES_MOST);
            int weight = number(1, 9);
            int side = number(0, 1);
            if (stops()) {
                told.addTrade(weight, side);
            }
        }

        private void readRest(Told told) {
            refuseIf(restTold);
            int rest = number(1, 60);
            if (stops()) {
                told.rest = rest;
                restTold = true;
            }
        }

        private void readLimit(Told told) {
            refuseIf(limitTold);
            int limit = number(0, 6);
            if (stops()) {
                told.limit = limit;
                limitTold = true;
            }
        }

        private void readAdded(Told told) {
            refuseIf(addedTold);
            int added = number(0, 9);
            if (stops()) {
                told.added = added;
                addedTold = true;
            }
        }

        private void refuseIf(boolean refused) {
            if (refused) {
                fault = start;
            }
        }

        // The first fault is the one that counts: behind it nothing more is read of the item.
        private int number(int low, int high) {
            if (fault != NO_FAULT) {
                return low;
            }
            nextToken();
            refuseIf(kind != NUMBER || value < low || value > high);
            return value;
        }

        private boolean stops() {
            if (fault == NO_FAULT) {
                nextToken();
                refuseIf(kind != STOP);
            }
            return fault == NO_FAULT;
        }

        private void nextToken() {
            while (place < length && byteAt(place) == ' ') {
                place++;
            }
            start = place;
            int c = byteAt(place);
            if (c < 0) {
                kind = END;
            } else if (isLetter(c)) {
                takeLetters(c);
            } else if (isDigit(c)) {
                takeNumber(c);
            } else {
                kind = c == ';' ? STOP : OTHER;
                place++;
            }
        }

        private void takeLetters(int first) {
            while (place < length && isLetter(byteAt(place))) {
                place++;
            }
            kind = LETTERS;
            value = place - start == 1 ? first : 0;
        }

        private void takeNumber(int first) {
            value = 0;
            while (place < length && isDigit(byteAt(place))) {
                // Cut above 99, so that no row of digits is too long for an int.
                value = Math.min(100, 10 * value + byteAt(place) - '0');
                place++;
            }
            boolean zeroAhead = first == '0' && place - start > 1;
            kind = value > 99 || zeroAhead ? OTHER : NUMBER;
        }

        private int byteAt(int i) {
            return i >= 0 && i < length && i < bytes.length ? bytes[i] : -1;
        }

        private static boolean isLetter(int c) {
            return c >= 'a' && c <= 'z';
        }

        private static boolean isDigit(int c) {
            return c >= '0' && c <= '9';
        }
    }

    /** What is NOW, and what was ahead of the latest ten deeds; an image is another of these. */
    private static final class Story {
        private static final int DAY = 0, REST = 1, ERROR = 2, CANDLES = 3, FOUND = 4, HARM = 5;
        private static final int MOMENT = HARM + TRADES_MOST;
        private static final int UNDONE_MOST = 10;

        // Moments side by side, NOW first, the latest past behind it: a deed moves all by one.
        final int[] moments = new int[MOMENT * (UNDONE_MOST + 1)];
        int known = 0;
        boolean kept = false;

        void begin(int rest) {
            for (int i = 0; i < MOMENT && i < moments.length; i++) {
                moments[i] = 0;
            }
            moments[REST] = rest;
            known = 0;
        }

        void copy(Story other) {
            System.arraycopy(other.moments, 0, moments, 0, moments.length);
            known = other.known;
        }

        int day() {
            return moments[DAY];
        }

        int rest() {
            return moments[REST];
        }

        int error() {
            return moments[ERROR];
        }

        int candles() {
            return moments[CANDLES];
        }

        int found() {
            return moments[FOUND];
        }

        int harmOf(int t) {
            return t >= 0 && t < TRADES_MOST ? moments[HARM + t] : 0;
        }

        int harmOfAll() {
            int harm = 0;
            for (int t = 0; t < TRADES_MOST; t++) {
                harm += harmOf(t);
            }
            return harm;
        }

        boolean isOver(Told told) {
            return day() >= told.days;
        }

        boolean isFree() {
            return rest() == 0;
        }

        boolean isEnded(Told told) {
            return isOver(told) || isFree();
        }

        int daysLeft(Told told) {
            return told.days - day();
        }

        int turn(Told told, int pace, int z) {
            remember();
            int day = day();
            moments[ERROR] += pace;
            moments[REST] = Math.max(0, rest() - SHOWN_A_DAY - pace);
            moments[CANDLES] = Math.min(999, candles() + told.candlesFor(day, pace));
            for (int t = 0; t < told.tradesTold; t++) {
                setHarm(t, Math.min(9999, harmOf(t) + told.harmTo(t, error())));
            }
            int answer = draw(day, z) < told.sunOf(day) ? check(told) : 0;
            moments[DAY] = day + 1;
            return answer;
        }

        int watch(Told told) {
            remember();
            return check(told);
        }

        int pay(int t, int n) {
            remember();
            moments[CANDLES] -= n;
            setHarm(t, Math.max(0, harmOf(t) - n));
            return harmOf(t);
        }

        int correct(int n) {
            remember();
            moments[ERROR] += n;
            return error();
        }

        boolean recall() {
            if (known <= 0) {
                return false;
            }
            System.arraycopy(moments, MOMENT, moments, 0, MOMENT * UNDONE_MOST);
            known--;
            return true;
        }

        int soonestFree(Told told) {
            for (int k = 0; k <= daysLeft(told); k++) {
                int gained = Math.min(QUICKEST * k, ERROR_MOST - error());
                if (SHOWN_A_DAY * k + gained >= rest()) {
                    return k;
                }
            }
            return NONE;
        }

        int caughtBehind(Told told, int pace) {
            if (isEnded(told)) {
                return NONE;
            }
            int error = error();
            int rest = rest();
            // He is checked ahead of being let out: a day that does both still catches him.
            for (int k = 0; k <= daysLeft(told); k++) {
                if (isBeyond(error)) {
                    return NONE;
                }
                if (Math.abs(error) > told.limit) {
                    return k;
                }
                if (rest <= 0) {
                    return NONE;
                }
                error += pace;
                rest -= SHOWN_A_DAY + pace;
            }
            return NONE;
        }

        private int check(Told told) {
            if (Math.abs(error()) <= told.limit) {
                return 1;
            }
            moments[FOUND]++;
            moments[ERROR] = 0;
            moments[REST] = Math.min(REST_MOST, rest() + told.added);
            return 2;
        }

        private void remember() {
            System.arraycopy(moments, 0, moments, MOMENT, MOMENT * UNDONE_MOST);
            known = Math.min(UNDONE_MOST, known + 1);
        }

        private void setHarm(int t, int harm) {
            if (t >= 0 && t < TRADES_MOST) {
                moments[HARM + t] = harm;
            }
        }

        private static int draw(int day, int z) {
            long q = 7919L * z + 6151L * day + 1;
            return (int) (q * q % 65521 / 8 % 10);
        }
    }

    /** The row of paces that gains most while nobody finds him: candles, or as little harm. */
    private static final class Plan {
        private int[] here = new int[ERRORS];
        private int[] later = new int[ERRORS];
        private boolean taking = false;
        // NO or less: there is no such row.
        int most = 0;
        int pace = NONE;

        void forCandles(Told told, Story story) {
            taking = true;
            make(told, story, story.daysLeft(told));
        }

        void forFreedom(Told told, Story story, int n) {
            taking = false;
            make(told, story, Math.min(n, story.daysLeft(told)));
        }

        private void make(Told told, Story story, int days) {
            int unfree = taking ? 0 : NO;
            pace = NONE;
            most = story.isFree() ? 0 : unfree;
            if (story.isFree() || days <= 0) {
                return;
            }
            for (int e = -ERROR_MOST; e <= ERROR_MOST; e++) {
                put(e, restBehind(story, days, e) <= 0 ? 0 : unfree);
            }
            for (int k = days - 1; k > 0; k--) {
                swapRows();
                for (int e = -ERROR_MOST; e <= ERROR_MOST; e++) {
                    boolean free = restBehind(story, k, e) <= 0;
                    put(e, free ? 0 : best(told, story.day() + k, e));
                }
            }
            swapRows();
            most = best(told, story.day(), story.error());
        }

        // While he is not free, the rest hangs on the days and the error alone.
        private static int restBehind(Story story, int days, int error) {
            return story.rest() - SHOWN_A_DAY * days - (error - story.error());
        }

        private int best(Told told, int day, int error) {
            int best = NO;
            pace = NONE;
            for (int p = SLOWEST; p <= QUICKEST; p++) {
                int gain = gain(told, day, p, error + p);
                if (gain > best) {
                    best = gain;
                    pace = p;
                }
            }
            return best;
        }

        private int gain(Told told, int day, int p, int error) {
            int widest = taking ? told.limit : ERROR_MOST;
            if (Math.abs(error) > widest || laterAt(error) <= NO) {
                return NO;
            }
            int today = taking ? told.candlesFor(day, p) : -told.harmToAll(error);
            return today + laterAt(error);
        }

        private void swapRows() {
            int[] row = later;
            later = here;
            here = row;
        }

        private int laterAt(int error) {
            int i = error + ERROR_MOST;
            return i >= 0 && i < later.length ? later[i] : NO;
        }

        private void put(int error, int gain) {
            int i = error + ERROR_MOST;
            if (i >= 0 && i < here.length) {
                here[i] = gain;
            }
        }
    }

    /** The greatest chance to be free, as a number of 10 to the power of the days to come. */
    private static final class Odds {
        // In the seven days behind the first he can show 49 at most: more rest has no chance.
        private static final int RESTS = 50;

        private int[] here = new int[ERRORS * RESTS];
        private int[] later = new int[ERRORS * RESTS];
        int upper = 0;
        int lower = 1;
        int pace = NONE;

        void weigh(Told told, Story story, int n) {
            int days = Math.min(n, story.daysLeft(told));
            pace = NONE;
            upper = story.isFree() ? 1 : 0;
            lower = 1;
            if (story.isFree() || days <= 0) {
                return;
            }
            fillRow(told, 0, 0);
            for (int left = 1; left < days; left++) {
                swapRows();
                lower *= 10;
                fillRow(told, story.day() + days - left, left);
            }
            swapRows();
            lower *= 10;
            upper = best(told, story.day(), story.error(), story.rest());
            reduce();
        }

        private void fillRow(Told told, int day, int left) {
            for (int e = -ERROR_MOST; e <= ERROR_MOST; e++) {
                put(e, 0, lower);
                for (int rest = 1; rest < RESTS; rest++) {
                    boolean near = rest <= (SHOWN_A_DAY + QUICKEST) * left;
                    put(e, rest, near ? best(told, day, e, rest) : 0);
                }
            }
        }

        private int best(Told told, int day, int error, int rest) {
            int best = -1;
            for (int p = SLOWEST; p <= QUICKEST; p++) {
                int odds = turned(told, day, error + p, rest - SHOWN_A_DAY - p);
                if (odds > best) {
                    best = odds;
                    pace = p;
                }
            }
            return best;
        }

        private int turned(Told told, int day, int error, int shown) {
            if (isBeyond(error)) {
                return -1;
            }
            int rest = Math.max(0, shown);
            int unfound = laterAt(error, rest);
            if (Math.abs(error) <= told.limit) {
                return 10 * unfound;
            }
            int sun = told.sunOf(day);
            int found = laterAt(0, Math.min(REST_MOST, rest + told.added));
            return sun * found + (10 - sun) * unfound;
        }

        // The lower number is a power of ten: nothing but twos and fives can be common.
        private void reduce() {
            for (int i = 0; i < 8; i++) {
                if (upper % 2 == 0 && lower % 2 == 0) {
                    upper /= 2;
                    lower /= 2;
                }
                if (upper % 5 == 0 && lower % 5 == 0) {
                    upper /= 5;
                    lower /= 5;
                }
            }
        }

        private void swapRows() {
            int[] row = later;
            later = here;
            here = row;
        }

        private int laterAt(int error, int rest) {
            if (rest < 0 || rest >= RESTS) {
                return 0;
            }
            int i = (error + ERROR_MOST) * RESTS + rest;
            return i >= 0 && i < later.length ? later[i] : 0;
        }

        private void put(int error, int rest, int odds) {
            int i = (error + ERROR_MOST) * RESTS + rest;
            if (i >= 0 && i < here.length) {
                here[i] = odds;
            }
        }
    }

    /** What was heard of a clock, and which errors it leaves; sets of errors are bits. */
    private static final class Hearsay {
        private static final int HEARD_MOST = 6;
        private static final int ALL = (1 << ERRORS) - 1;
        private static final int MODULUS = 1000003;

        // Kept as what is left behind each day: no more is needed of what was heard.
        private final int[] allowed = new int[DAYS_MOST];
        private int[] here = new int[ERRORS];
        private int[] later = new int[ERRORS];
        int heard = 0;

        Hearsay() {
            drop();
        }

        void drop() {
            heard = 0;
            for (int d = 0; d < allowed.length; d++) {
                allowed[d] = ALL;
            }
        }

        boolean add(int day, int error, int w) {
            if (heard >= HEARD_MOST || day < 0 || day >= allowed.length) {
                return false;
            }
            allowed[day] &= within(error - w, error + w);
            heard++;
            return true;
        }

        int errorsBehind(int day) {
            int ahead = 1 << ERROR_MOST;
            for (int d = 0; d <= day && d < DAYS_MOST; d++) {
                ahead = aDayOn(ahead) & allowedBehind(d);
            }
            int back = ALL;
            for (int d = DAYS_MOST - 1; d > day && d > 0; d--) {
                back = aDayBack(back & allowedBehind(d));
            }
            return ahead & back;
        }

        int widestDay() {
            int widest = 0;
            int answer = NONE;
            for (int d = 0; d < DAYS_MOST; d++) {
                int errors = Integer.bitCount(errorsBehind(d));
                if (errors > widest) {
                    widest = errors;
                    answer = d;
                }
            }
            return answer;
        }

        // Counted from the last day to the first: how many rows go on from each error.
        int rows() {
            for (int i = 0; i < later.length; i++) {
                later[i] = 1;
            }
            for (int d = DAYS_MOST - 1; d > 0; d--) {
                for (int e = -ERROR_MOST; e <= ERROR_MOST; e++) {
                    put(e, rowsFrom(d, e));
                }
                swapRows();
            }
            return rowsFrom(0, 0);
        }

        private int rowsFrom(int day, int error) {
            int rows = 0;
            for (int p = SLOWEST; p <= QUICKEST; p++) {
                int e = error + p;
                if ((within(e, e) & allowedBehind(day)) != 0) {
                    rows += laterAt(e);
                }
            }
            return rows % MODULUS;
        }

        private int allowedBehind(int day) {
            return day >= 0 && day < allowed.length ? allowed[day] : 0;
        }

        private static int within(int low, int high) {
            int set = 0;
            for (int e = -ERROR_MOST; e <= ERROR_MOST; e++) {
                if (e >= low && e <= high) {
                    set |= 1 << (e + ERROR_MOST);
                }
            }
            return set;
        }

        private static int aDayOn(int set) {
            int quick = set << 1 | set << 2 | set << 3;
            return (set | quick | set >> 1 | set >> 2) & ALL;
        }

        private static int aDayBack(int set) {
            int quick = set >> 1 | set >> 2 | set >> 3;
            return (set | quick | set << 1 | set << 2) & ALL;
        }

        private void swapRows() {
            int[] row = later;
            later = here;
            here = row;
        }

        private int laterAt(int error) {
            int i = error + ERROR_MOST;
            return i >= 0 && i < later.length ? later[i] : 0;
        }

        private void put(int error, int rows) {
            int i = error + ERROR_MOST;
            if (i >= 0 && i < here.length) {
                here[i] = rows;
            }
        }
    }
}
