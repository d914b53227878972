/** Long mixed runs of calls on the class and on the model of the document, side by side. */
public final class RandomRunsTest {
    // Nothing is promised behind the 512th call of an object.
    private static final int CALLS_MOST = 512;
    private static final int LOOK = 133;
    private static final int STEP = 30;

    private static long seed = 1;
    private static int calls = 0;

    private static void due(String call, long got, long want) {
        calls++;
        Check.due(call, got, want);
    }

    private static boolean hasRoom(int more) {
        return calls + more <= CALLS_MOST;
    }

    // A row of numbers of its own, so that every run of the test is the same.
    private static int upTo(int most) {
        seed = seed * 6364136223846793005L + 1442695040888963407L;
        return (int) ((seed >>> 33) % (most + 1));
    }

    private static int between(int low, int high) {
        return low + upTo(high - low);
    }

    private static int mostly(int low, int high) {
        return upTo(24) == 0 ? between(low - 2, high + 2) : between(low, high);
    }

    private static void blanks(StringBuilder text, int most) {
        for (int i = upTo(most); i > 0; i--) {
            text.append(' ');
        }
    }

    private static void item(StringBuilder text, String name, int... numbers) {
        text.append(name);
        for (int i = 0; i < numbers.length; i++) {
            text.append(i == 0 ? "" : " ").append(numbers[i]);
        }
        text.append(';');
        if (upTo(5) == 0) {
            blanks(text, 2);
        }
    }

    private static String sentence() {
        StringBuilder text = new StringBuilder();
        int days = upTo(3) == 0 ? upTo(4) : between(5, 14);
        int bribes = upTo(6);
        int trades = upTo(4);
        for (int d = 0; d < days; d++) {
            item(text, "d", upTo(2) == 0 ? 0 : upTo(10));
        }
        if (upTo(9) > 0) {
            item(text, "r", upTo(2) == 0 ? between(1, 60) : between(8, 40));
        }
        for (int b = 0; b < bribes; b++) {
            item(text, "b", upTo(Math.max(0, days - 1)), upTo(1), upTo(5), between(1, 20));
        }
        for (int t = 0; t < trades; t++) {
            item(text, "h", between(1, 9), upTo(1));
        }
        if (upTo(2) > 0) {
            item(text, "l", upTo(6));
        }
        if (upTo(2) > 0) {
            item(text, "a", upTo(9));
        }
        return text.toString();
    }

    private static String spoiled(String text) {
        StringBuilder s = new StringBuilder(text);
        String signs = "dbhrla;; 0123456789xZ~";
        for (int i = upTo(2); i >= 0; i--) {
            int at = upTo(s.length());
            char sign = signs.charAt(upTo(signs.length() - 1));
            int how = upTo(2);
            if (how == 0 || at == s.length()) {
                s.insert(at, sign);
            } else if (how == 1) {
                s.setCharAt(at, sign);
            } else {
                s.deleteCharAt(at);
            }
        }
        return s.toString();
    }

    private static void tell(TowerPrisoner x, Model y, String text) {
        for (int i = 0; i < text.length(); i++) {
            int c = text.charAt(i);
            due("type(" + c + ")", x.type(c), y.type(c));
        }
        due("sentence() of \"" + text + "\"", x.sentence(), y.sentence());
        due("clear() behind \"" + text + "\"", x.clear(), y.clear());
    }

    private static void look(String run, TowerPrisoner x, Model y) {
        for (int what = -1; what <= 8; what++) {
            due(run + "now(" + what + ")", x.now(what), y.now(what));
            due(run + "count(" + what + ")", x.count(what), y.count(what));
        }
        for (int d = -1; d <= 14; d++) {
            due(run + "sun(" + d + ")", x.sun(d), y.sun(d));
        }
        for (int i = -1; i <= 6; i++) {
            for (int what = -1; what <= 4; what++) {
                String of = "(" + i + ", " + what + ")";
                due(run + "bribe" + of, x.bribe(i, what), y.bribe(i, what));
                due(run + "trade" + of, x.trade(i, what), y.trade(i, what));
            }
        }
        due(run + "trace()", x.trace(), y.trace());
    }

    /** What changes most, and a little of the rest. */
    private static void glance(String run, TowerPrisoner x, Model y) {
        for (int what = 0; what < 8; what++) {
            due(run + "now(" + what + ")", x.now(what), y.now(what));
        }
        int n = between(-1, 14);
        int what = between(-1, 8);
        due(run + "count(" + what + ")", x.count(what), y.count(what));
        due(run + "sun(" + n + ")", x.sun(n), y.sun(n));
        due(run + "bribe(" + n + ", " + what + ")", x.bribe(n, what), y.bribe(n, what));
        for (int t = 0; t < 4; t++) {
            due(run + "trade(" + t + ", 2)", x.trade(t, 2), y.trade(t, 2));
        }
        due(run + "trace()", x.trace(), y.trace());
    }

    private static void plan(String run, TowerPrisoner x, Model y) {
        int n = mostly(0, 8);
        int m = mostly(0, 14);
        int p = mostly(-2, 3);
        due(run + "soonest()", x.soonest(), y.soonest());
        for (int what = -1; what <= 3; what++) {
            String of = n + ", " + what + ")";
            due(run + "chance(" + of, x.chance(n, what), y.chance(n, what));
            of = m + ", " + what + ")";
            due(run + "least(" + of, x.least(m, what), y.least(m, what));
            due(run + "safe(" + what + ")", x.safe(what), y.safe(what));
        }
        due(run + "catches(" + p + ")", x.catches(p), y.catches(p));
    }

    private static void act(String run, TowerPrisoner x, Model y) {
        int pace = mostly(-2, 3);
        int z = mostly(0, 9999);
        int n = mostly(-9, 9);
        int t = mostly(0, 3);
        int paid = upTo(3) == 0 ? mostly(1, 99) : between(1, 12);
        switch (upTo(9)) {
            case 0: due(run + "watches()", x.watches(), y.watches()); break;
            case 1:
                due(run + "pays(" + t + ", " + paid + ")", x.pays(t, paid), y.pays(t, paid));
                break;
            case 2: due(run + "corrects(" + n + ")", x.corrects(n), y.corrects(n)); break;
            case 3: due(run + "undo()", x.undo(), y.undo()); break;
            default:
                due(run + "winds(" + pace + ", " + z + ")", x.winds(pace, z),
                        y.winds(pace, z));
        }
    }

    private static void hear(String run, TowerPrisoner x, Model y) {
        int day = mostly(0, 13);
        int error = upTo(1) == 0 ? mostly(-9, 9) : between(-3, 4);
        int w = mostly(0, 3);
        int asked = mostly(0, 13);
        if (upTo(7) == 0) {
            due(run + "forget()", x.forget(), y.forget());
        } else {
            due(run + "hears(" + day + ", " + error + ", " + w + ")",
                    x.hears(day, error, w), y.hears(day, error, w));
        }
        due(run + "could(" + asked + ")", x.could(asked), y.could(asked));
        due(run + "ways()", x.ways(), y.ways());
        due(run + "ask()", x.ask(), y.ask());
    }

    private static void image(String run, TowerPrisoner x, Model y) {
        int image = mostly(0, 1);
        int kind = mostly(0, 5);
        int t = mostly(0, 3);
        if (upTo(1) == 0) {
            due(run + "keep(" + image + ")", x.keep(image), y.keep(image));
        } else {
            due(run + "back(" + image + ")", x.back(image), y.back(image));
        }
        due(run + "mark(" + kind + ", " + t + ")", x.mark(kind, t), y.mark(kind, t));
    }

    private static void step(String run, TowerPrisoner x, Model y) {
        switch (upTo(19)) {
            case 0: hear(run, x, y); break;
            case 1: case 2: image(run, x, y); break;
            case 3: plan(run, x, y); break;
            case 4: glance(run, x, y); break;
            default: act(run, x, y);
        }
    }

    /** Behind the text, as many deeds and questions as there is room for. */
    private static void part(String name, TowerPrisoner x, Model y, boolean closely) {
        if (closely && hasRoom(LOOK)) {
            look(name, x, y);
        }
        for (int i = upTo(60); i > 0 && hasRoom(STEP); i--) {
            step(name, x, y);
        }
        if (hasRoom(STEP)) {
            plan(name, x, y);
        }
        if (closely && hasRoom(LOOK)) {
            look(name, x, y);
        }
    }

    private static void run(int run) {
        TowerPrisoner x = new TowerPrisoner();
        Model y = new Model();
        calls = 0;
        boolean closely = upTo(2) == 0;
        if (closely) {
            look("run " + run + ": ", x, y);
        }
        for (int parts = upTo(2); parts >= 0; parts--) {
            String sentence = sentence();
            String text = upTo(5) == 0 ? spoiled(sentence) : sentence;
            if (hasRoom(text.length() + 2 + STEP)) {
                tell(x, y, text);
                part("run " + run + ", \"" + text + "\": ", x, y, closely);
            }
        }
    }

    public static void main(String[] args) {
        for (int run = 0; run < 1500; run++) {
            run(run);
        }
        for (int run = 0; run < 10000; run++) {
            tell(new TowerPrisoner(), new Model(), spoiled(sentence()));
        }
        Check.end();
    }
}
