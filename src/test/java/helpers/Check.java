/** Counts the answers that are not as due, and ends a test by them. */
final class Check {
    private static int looked = 0;
    private static int wrong = 0;
    private static String test = "";

    private Check() {
    }

    /** From here on it is this test that looks. */
    static void under(String name) {
        test = name.isEmpty() ? "" : name + ": ";
    }

    static int looked() {
        return looked;
    }

    static void due(String call, long got, long want) {
        looked++;
        if (got != want) {
            wrong++;
            if (wrong <= 40) {
                System.out.println(test + call + " answered " + got + ", due is " + want);
            }
        }
    }

    static void holds(String what, boolean so) {
        due(what, so ? 1 : 0, 1);
    }

    static void end() {
        System.out.println(wrong == 0 ? looked + " answers are as due"
                : wrong + " of " + looked + " answers are not as due");
        if (wrong != 0 || looked == 0) {
            System.exit(1);
        }
    }

    static TowerPrisoner typed(TowerPrisoner x, String text) {
        for (int i = 0; i < text.length(); i++) {
            x.type(text.charAt(i));
        }
        return x;
    }

    /** A new object to which the text was told, which must have no fault. */
    static TowerPrisoner told(String text) {
        TowerPrisoner x = typed(new TowerPrisoner(), text);
        int items = x.sentence();
        holds("told(\"" + text + "\")", items >= 0);
        return x;
    }

    /** What sentence() answers to the text on a new object. */
    static int read(String text) {
        return typed(new TowerPrisoner(), text).sentence();
    }
}
