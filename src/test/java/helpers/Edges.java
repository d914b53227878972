import java.lang.reflect.InvocationTargetException;
import java.lang.reflect.Method;
import java.util.ArrayList;
import java.util.Arrays;
import java.util.Comparator;
import java.util.List;
import java.util.function.Supplier;
import java.util.function.ToLongFunction;

/** What the tests of edges have in common: objects to begin with, and what is asked of answers. */
abstract class Edges {
    static final int BAD = -1, STATE = -2, FULL = -3, NONE = -9, NO = -1000000;
    /** Numbers far beyond all that is told, which no arithmetic may bring back. */
    static final int[] WILD = {Integer.MIN_VALUE, -1000001, -1000000, 1000000, 1 << 30,
        Integer.MAX_VALUE};
    static final String REFUSED = "Refused, and nothing changes, the first of these: BAD (a number "
            + "is not as told, or there is no such thing), STATE (as told), FULL.";
    static final String TEN_DAYS = "d0;d0;d0;d0;d0;d0;d0;d0;d0;d0;";

    static void due(String call, long got, long want) {
        Check.due(call, got, want);
    }

    /** The answers of now(0), now(1) and so on. */
    static void nows(TowerPrisoner x, int... wants) {
        for (int what = 0; what < wants.length; what++) {
            due("now(" + what + ")", x.now(what), wants[what]);
        }
    }

    static void counts(TowerPrisoner x, int... wants) {
        for (int what = 0; what < wants.length; what++) {
            due("count(" + what + ")", x.count(what), wants[what]);
        }
    }

    /** The call answers so, and all that can be seen is as if it had not been. */
    static void refused(String call, Supplier<TowerPrisoner> made,
            ToLongFunction<TowerPrisoner> asked, long want) {
        TowerPrisoner x = made.get();
        due(call, asked.applyAsLong(x), want);
        same(call + " changed", x, made.get());
    }

    static void same(String call, TowerPrisoner x, TowerPrisoner y) {
        List<String> got = Look.at(x);
        List<String> want = Look.at(y);
        for (int i = 0; i < Math.max(got.size(), want.size()); i++) {
            String left = i < got.size() ? got.get(i) : "nothing";
            String right = i < want.size() ? want.get(i) : "nothing";
            if (!left.equals(right)) {
                Check.holds(call + ": " + left + ", due is " + right, false);
                return;
            }
        }
        Check.holds(call, true);
    }

    /** Something of everything: done, to be undone, kept, heard, asked and typed. */
    static TowerPrisoner rich() {
        TowerPrisoner x = Check.told("d10;d0;d0;d4;b0 1 5 20;b1 0 3 7;b3 0 0 9;h2 1;h3 0;r40;"
                + "l2;a4;");
        x.winds(3, 0);
        x.keep(0);
        x.winds(1, 5);
        x.corrects(-4);
        x.keep(1);
        x.pays(0, 3);
        x.hears(2, 1, 1);
        x.hears(5, -2, 0);
        x.mark(5, 1);
        return Check.typed(x, "d7;h9 1;");
    }

    /** OVER, and not FREE: ERROR 3, CANDLES 9, HARM 12. */
    static TowerPrisoner over() {
        TowerPrisoner x = Check.told("d0;d0;b0 1 5 9;h2 1;r30;");
        x.winds(3, 0);
        x.winds(0, 0);
        return x;
    }

    /** FREE, and not OVER: ERROR 3, CANDLES 9, HARM 6. */
    static TowerPrisoner free() {
        TowerPrisoner x = Check.told("d0;d0;b0 1 5 9;h2 1;r7;");
        x.winds(3, 0);
        return x;
    }

    /** FREE, and OVER: ERROR 3, CANDLES 9, HARM 6. */
    static TowerPrisoner freeAndOver() {
        TowerPrisoner x = Check.told("d0;b0 1 5 9;h2 1;r7;");
        x.winds(3, 0);
        return x;
    }

    /** A new object to which the text was told, with ERROR as it is wanted. */
    static TowerPrisoner at(int error, String text) {
        TowerPrisoner x = Check.told(text);
        if (error != 0) {
            due("corrects(" + error + ")", x.corrects(error), error);
        }
        return x;
    }

    static TowerPrisoner typed(String text) {
        return Check.typed(new TowerPrisoner(), text);
    }

    static String times(int n, String part) {
        return part.repeat(n);
    }

    /** A sentence of the document, and the test that quotes it. */
    record Said(String test, String quote) {
    }

    /** Runs the tests of a class, each by its name, and answers what they say of the document. */
    static List<Said> run(Class<?> tests) {
        List<Said> said = new ArrayList<>();
        Method[] methods = tests.getDeclaredMethods();
        Arrays.sort(methods, Comparator.comparing(Method::getName));
        for (Method m : methods) {
            boolean named = m.getName().matches("promise[0-2][0-9]_\\w+|allPromises_\\w+");
            Says says = m.getAnnotation(Says.class);
            if (m.isSynthetic()) {
                continue;
            }
            Check.under(tests.getSimpleName() + "." + m.getName());
            Check.holds("a test names its promise and its sentence", named == (says != null));
            if (says != null) {
                for (String quote : says.value()) {
                    said.add(new Said(m.getName(), quote));
                }
                call(m);
            }
        }
        Check.under("");
        return said;
    }

    private static void call(Method m) {
        int before = Check.looked();
        try {
            m.setAccessible(true);
            m.invoke(null);
        } catch (InvocationTargetException e) {
            Check.holds("threw " + e.getCause(), false);
        } catch (IllegalAccessException e) {
            Check.holds("could not be run: " + e, false);
        }
        Check.holds("the test looks at something", Check.looked() > before);
    }
}
