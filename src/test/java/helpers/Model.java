import java.math.BigInteger;
import java.util.ArrayDeque;
import java.util.ArrayList;
import java.util.HashMap;
import java.util.HashSet;
import java.util.List;
import java.util.Map;
import java.util.Set;
import java.util.regex.Matcher;
import java.util.regex.Pattern;

/** The document once more, written as plainly and as differently as it goes, to compare with. */
final class Model {
    static final int BAD = -1, STATE = -2, FULL = -3, NONE = -9, NO = -1000000;

    record Bribe(int day, int side, int pace, int candles) {
    }

    record Trade(int weight, int side) {
    }

    record Moment(int day, int rest, int error, int candles, List<Integer> harms, int found) {
    }

    record Image(Moment moment, List<Moment> past) {
    }

    record Heard(int day, int error, int w) {
    }

    private StringBuilder text = new StringBuilder();
    private List<Integer> suns = new ArrayList<>();
    private List<Bribe> bribes = new ArrayList<>();
    private List<Trade> trades = new ArrayList<>();
    private int limit = 2;
    private int added = 3;
    private Moment now = new Moment(0, 20, 0, 0, List.of(), 0);
    private List<Moment> past = new ArrayList<>();
    private final Image[] images = new Image[2];
    private List<Heard> heard = new ArrayList<>();
    private long trace = 0;

    int type(int c) {
        if (c < 0 || c > 255) return BAD;
        if (text.length() == 150) return FULL;
        text.append((char) c);
        return text.length();
    }

    int clear() {
        int had = text.length();
        text = new StringBuilder();
        return had;
    }

    private static final Pattern TOKEN = Pattern.compile("[a-z]+|[0-9]+|;|[^ ]");

    private static final Map<String, int[][]> SHAPES = Map.of(
            "d", new int[][] {{0, 10}},
            "b", new int[][] {{0, 13}, {0, 1}, {0, 5}, {1, 20}},
            "h", new int[][] {{1, 9}, {0, 1}},
            "r", new int[][] {{1, 60}},
            "l", new int[][] {{0, 6}},
            "a", new int[][] {{0, 9}});
    private static final Map<String, Integer> MOST =
            Map.of("d", 14, "b", 6, "h", 4, "r", 1, "l", 1, "a", 1);

    int sentence() {
        List<String> tokens = new ArrayList<>();
        List<Integer> starts = new ArrayList<>();
        Matcher m = TOKEN.matcher(text);
        while (m.find()) {
            tokens.add(m.group());
            starts.add(m.start());
        }
        Map<String, List<int[]>> items = new HashMap<>();
        int count = 0;
        for (int i = 0; i < tokens.size(); ) {
            String name = tokens.get(i);
            int[][] shape = SHAPES.get(name);
            List<int[]> alike = items.computeIfAbsent(name, k -> new ArrayList<>());
            if (shape == null || alike.size() == MOST.get(name)) return -10 - starts.get(i);
            int[] numbers = new int[shape.length];
            for (int k = 0; k <= shape.length; k++) {
                int at = i + 1 + k;
                if (at == tokens.size()) return -10 - text.length();
                String token = tokens.get(at);
                boolean fits = k == shape.length ? token.equals(";")
                        : token.matches("0|[1-9][0-9]?") && Integer.parseInt(token) >= shape[k][0]
                        && Integer.parseInt(token) <= shape[k][1];
                if (!fits) return -10 - starts.get(at);
                if (k < shape.length) numbers[k] = Integer.parseInt(token);
            }
            alike.add(numbers);
            count++;
            i += shape.length + 2;
        }
        begin(items);
        text = new StringBuilder();
        return count;
    }

    private static int only(Map<String, List<int[]>> items, String name, int other) {
        List<int[]> alike = items.get(name);
        return alike == null ? other : alike.get(0)[0];
    }

    private void begin(Map<String, List<int[]>> items) {
        suns = new ArrayList<>();
        bribes = new ArrayList<>();
        trades = new ArrayList<>();
        for (int[] n : items.getOrDefault("d", List.of())) suns.add(n[0]);
        for (int[] n : items.getOrDefault("b", List.of())) {
            bribes.add(new Bribe(n[0], n[1], n[2] - 2, n[3]));
        }
        for (int[] n : items.getOrDefault("h", List.of())) trades.add(new Trade(n[0], n[1]));
        limit = only(items, "l", 2);
        added = only(items, "a", 3);
        List<Integer> none = new ArrayList<>();
        for (int t = 0; t < trades.size(); t++) none.add(0);
        now = new Moment(0, only(items, "r", 20), 0, 0, none, 0);
        past = new ArrayList<>();
        images[0] = null;
        images[1] = null;
        heard = new ArrayList<>();
    }

    int sun(int d) {
        return d < 0 || d >= suns.size() ? BAD : suns.get(d);
    }

    int bribe(int b, int what) {
        if (b < 0 || b >= bribes.size()) return NO;
        Bribe x = bribes.get(b);
        return switch (what) {
            case 0 -> x.day;
            case 1 -> x.side;
            case 2 -> x.pace;
            case 3 -> x.candles;
            default -> NO;
        };
    }

    int trade(int t, int what) {
        if (t < 0 || t >= trades.size()) return BAD;
        return switch (what) {
            case 0 -> trades.get(t).weight;
            case 1 -> trades.get(t).side;
            case 2 -> now.harms.get(t);
            default -> BAD;
        };
    }

    private boolean over() {
        return now.day == suns.size();
    }

    private boolean free() {
        return now.rest == 0;
    }

    private void deed() {
        past.add(now);
        if (past.size() > 10) past.remove(0);
    }

    private int harm(int t, int error) {
        Trade x = trades.get(t);
        if (x.side == 0) return error < 0 ? x.weight * Math.abs(error) : 0;
        return error > 0 ? x.weight * error : 0;
    }

    private int candles(int day, int pace) {
        int sum = 0;
        for (Bribe b : bribes) {
            if (b.day != day) continue;
            if (b.side == 0 && pace <= b.pace || b.side == 1 && pace >= b.pace) sum += b.candles;
        }
        return sum;
    }

    private boolean checkFinds() {
        if (Math.abs(now.error) <= limit) return false;
        now = new Moment(now.day, Math.min(99, now.rest + added), 0, now.candles, now.harms,
                now.found + 1);
        return true;
    }

    int winds(int pace, int z) {
        if (pace < -2 || pace > 3 || z < 0 || z > 9999) return BAD;
        if (over() || free() || Math.abs(now.error + pace) > 9) return STATE;
        deed();
        int error = now.error + pace;
        int rest = now.rest - (4 + pace);
        List<Integer> harms = new ArrayList<>();
        for (int t = 0; t < trades.size(); t++) {
            harms.add(Math.min(9999, now.harms.get(t) + harm(t, error)));
        }
        now = new Moment(now.day, rest < 0 ? 0 : rest, error,
                Math.min(999, now.candles + candles(now.day, pace)), harms, now.found);
        BigInteger q = BigInteger.valueOf(7919).multiply(BigInteger.valueOf(z))
                .add(BigInteger.valueOf(6151).multiply(BigInteger.valueOf(now.day)))
                .add(BigInteger.ONE);
        int draw = q.multiply(q).mod(BigInteger.valueOf(65521)).intValue() / 8 % 10;
        int answer = 0;
        if (draw < suns.get(now.day)) answer = checkFinds() ? 2 : 1;
        now = new Moment(now.day + 1, now.rest, now.error, now.candles, now.harms, now.found);
        return answer;
    }

    int watches() {
        if (over() || free()) return STATE;
        deed();
        return checkFinds() ? 2 : 1;
    }

    int pays(int t, int n) {
        if (t < 0 || t >= trades.size() || n < 1 || n > 99) return BAD;
        if (now.candles < n) return STATE;
        deed();
        List<Integer> harms = new ArrayList<>(now.harms);
        harms.set(t, Math.max(0, harms.get(t) - n));
        now = new Moment(now.day, now.rest, now.error, now.candles - n, harms, now.found);
        return harms.get(t);
    }

    int corrects(int n) {
        if (n < -9 || n > 9 || n == 0 || over() || free()) return NO;
        if (Math.abs(now.error + n) > 9) return NO;
        deed();
        now = new Moment(now.day, now.rest, now.error + n, now.candles, now.harms, now.found);
        return now.error;
    }

    int undo() {
        if (past.isEmpty()) return STATE;
        now = past.remove(past.size() - 1);
        return past.size();
    }

    int now(int what) {
        return switch (what) {
            case 0 -> now.day;
            case 1 -> now.rest;
            case 2 -> now.error;
            case 3 -> now.candles;
            case 4 -> now.harms.stream().mapToInt(h -> h).sum();
            case 5 -> now.found;
            case 6 -> over() ? 1 : 0;
            case 7 -> free() ? 1 : 0;
            default -> NO;
        };
    }

    private int left() {
        return suns.size() - now.day;
    }

    int soonest() {
        Set<List<Integer>> states = new HashSet<>();
        states.add(List.of(now.error, now.rest));
        for (int k = 0; k <= left(); k++) {
            Set<List<Integer>> next = new HashSet<>();
            for (List<Integer> s : states) {
                if (s.get(1) <= 0) return k;
                for (int p = -2; p <= 3; p++) {
                    if (Math.abs(s.get(0) + p) <= 9) {
                        next.add(List.of(s.get(0) + p, s.get(1) - 4 - p));
                    }
                }
            }
            states = next;
        }
        return NONE;
    }

    private final Map<List<Integer>, BigInteger> known = new HashMap<>();

    // The chance times 10 to the power of the days that are left.
    private BigInteger odds(int day, int days, int error, int rest) {
        if (rest == 0) return BigInteger.TEN.pow(days);
        if (days == 0) return BigInteger.ZERO;
        List<Integer> key = List.of(day, days, error, rest);
        BigInteger best = known.get(key);
        if (best != null) return best;
        best = BigInteger.ZERO;
        for (int p = -2; p <= 3; p++) {
            if (Math.abs(error + p) <= 9) best = best.max(oddsBy(p, day, days, error, rest));
        }
        known.put(key, best);
        return best;
    }

    private BigInteger oddsBy(int p, int day, int days, int error, int rest) {
        int e = error + p;
        int r = Math.max(0, rest - 4 - p);
        BigInteger unchecked = odds(day + 1, days - 1, e, r);
        BigInteger checked = Math.abs(e) > limit
                ? odds(day + 1, days - 1, 0, Math.min(99, r + added)) : unchecked;
        int sun = suns.get(day);
        return checked.multiply(BigInteger.valueOf(sun))
                .add(unchecked.multiply(BigInteger.valueOf(10 - sun)));
    }

    int chance(int n, int what) {
        if (n < 0 || n > 8 || what < 0 || what > 2) return NO;
        known.clear();
        int days = Math.min(n, left());
        BigInteger upper = odds(now.day, days, now.error, now.rest);
        BigInteger lower = BigInteger.TEN.pow(days);
        BigInteger common = upper.gcd(lower);
        if (what == 0) return upper.divide(common).intValue();
        if (what == 1) return lower.divide(common).intValue();
        if (days == 0 || free()) return NONE;
        for (int p = -2; p <= 3; p++) {
            if (Math.abs(now.error + p) > 9) continue;
            if (oddsBy(p, now.day, days, now.error, now.rest).equals(upper)) return p;
        }
        throw new IllegalStateException("no pace");
    }

    /** The best sum that rows of paces reach: candles if taking, else harm below 0; null: none. */
    private final Map<List<Integer>, int[]> gains = new HashMap<>();

    private int[] gain(boolean taking, int day, int days, int error, int rest) {
        if (rest <= 0) return new int[] {0, NONE};
        if (days == 0) return taking ? new int[] {0, NONE} : null;
        List<Integer> key = List.of(day, days, error, rest);
        if (gains.containsKey(key)) return gains.get(key);
        int[] best = null;
        for (int p = -2; p <= 3; p++) {
            int e = error + p;
            if (Math.abs(e) > (taking ? limit : 9)) continue;
            int[] then = gain(taking, day + 1, days - 1, e, rest - 4 - p);
            if (then == null) continue;
            int sum = then[0];
            if (taking) sum += candles(day, p);
            else for (int t = 0; t < trades.size(); t++) sum -= harm(t, e);
            if (best == null || sum > best[0]) best = new int[] {sum, p};
        }
        gains.put(key, best);
        return best;
    }

    int safe(int what) {
        if (what < 0 || what > 1) return NO;
        gains.clear();
        int[] best = gain(true, now.day, left(), now.error, now.rest);
        return best == null ? NONE : best[what];
    }

    int least(int n, int what) {
        if (n < 0 || n > 14 || what < 0 || what > 1) return NO;
        gains.clear();
        int[] best = gain(false, now.day, Math.min(n, left()), now.error, now.rest);
        if (best == null) return NONE;
        return what == 0 ? -best[0] : best[1];
    }

    int catches(int pace) {
        if (pace < -2 || pace > 3) return BAD;
        if (over() || free()) return NONE;
        if (Math.abs(now.error) > limit) return 0;
        int rest = now.rest;
        for (int k = 1; k <= left(); k++) {
            int e = now.error + k * pace;
            if (Math.abs(e) > 9) return NONE;
            if (Math.abs(e) > limit) return k;
            rest -= 4 + pace;
            if (rest <= 0) return NONE;
        }
        return NONE;
    }

    int hears(int day, int error, int w) {
        if (day < 0 || day > 13 || error < -9 || error > 9 || w < 0 || w > 3) return BAD;
        if (heard.size() == 6) return FULL;
        heard.add(new Heard(day, error, w));
        return heard.size();
    }

    int forget() {
        int had = heard.size();
        heard.clear();
        return had;
    }

    private boolean heardSo(int day, int error) {
        for (Heard h : heard) {
            if (h.day == day && Math.abs(h.error - error) > h.w) return false;
        }
        return true;
    }

    // How many rows of 14 paces there are; only those with such an error behind the day, if asked.
    private BigInteger rows(int day, int error) {
        Map<Integer, BigInteger> counts = Map.of(0, BigInteger.ONE);
        for (int d = 0; d < 14; d++) {
            Map<Integer, BigInteger> next = new HashMap<>();
            for (Map.Entry<Integer, BigInteger> c : counts.entrySet()) {
                for (int p = -2; p <= 3; p++) {
                    int e = c.getKey() + p;
                    if (Math.abs(e) > 9 || !heardSo(d, e) || d == day && e != error) continue;
                    next.merge(e, c.getValue(), BigInteger::add);
                }
            }
            counts = next;
        }
        return counts.values().stream().reduce(BigInteger.ZERO, BigInteger::add);
    }

    int could(int day) {
        if (day < 0 || day > 13) return BAD;
        int bits = 0;
        for (int e = -9; e <= 9; e++) {
            if (rows(day, e).signum() > 0) bits |= 1 << (e + 9);
        }
        return bits;
    }

    int ways() {
        return rows(-1, 0).mod(BigInteger.valueOf(1000003)).intValue();
    }

    int ask() {
        int answer = NONE;
        int most = 0;
        for (int d = 0; d < 14; d++) {
            int errors = Integer.bitCount(could(d));
            if (errors > most) {
                most = errors;
                answer = d;
            }
        }
        return answer;
    }

    private static final int[] ABOVE = {-1, 0, 0, 1, 2, 0};
    private static final int[] BRACKETS = {1, 10, 100, 1000, 10000, 100000};

    int mark(int kind, int t) {
        if (kind < 0 || kind > 5 || t < 0 || t >= trades.size()) return NO;
        ArrayDeque<Integer> chain = new ArrayDeque<>();
        for (int k = kind; k >= 0; k = ABOVE[k]) chain.push(k);
        int mark = 0;
        for (int k : chain) {
            trace += BRACKETS[k];
            mark = switch (k) {
                case 0 -> trades.get(t).weight;
                case 1 -> mark + now.harms.get(t);
                case 2 -> mark - now.error;
                case 3 -> mark * 2;
                case 4 -> mark + t;
                default -> mark + now.candles;
            };
        }
        return mark;
    }

    int keep(int image) {
        if (image < 0 || image > 1) return BAD;
        images[image] = new Image(now, List.copyOf(past));
        return now.day;
    }

    int back(int image) {
        if (image < 0 || image > 1) return BAD;
        if (images[image] == null) return STATE;
        now = images[image].moment;
        past = new ArrayList<>(images[image].past);
        return now.day;
    }

    int count(int what) {
        return switch (what) {
            case 0 -> suns.size();
            case 1 -> bribes.size();
            case 2 -> trades.size();
            case 3 -> limit;
            case 4 -> added;
            case 5 -> heard.size();
            case 6 -> past.size();
            case 7 -> text.length();
            default -> BAD;
        };
    }

    long trace() {
        return trace;
    }
}
