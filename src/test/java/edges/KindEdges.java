/** Promises 24 to 28, "kinds, images": the edges that the document names, sentence by sentence. */
final class KindEdges extends Edges {
    // ---- mark

    private static final String KINDS = "KINDS of TRADES are over one another: 0 TRADE; 1 BAKER, "
            + "2 COURT, 5 HEN (each under TRADE); 3 SWEETHEART (under BAKER); "
            + "4 WIFE (under COURT).";

    @Says(KINDS)
    static void promise24_aKindIs0To5() {
        for (int t = 0; t < 2; t++) {
            int of = t;
            refused("mark(-1, " + t + ")", Edges::rich, x -> x.mark(-1, of), NO);
            refused("mark(6, " + t + ")", Edges::rich, x -> x.mark(6, of), NO);
            refused("mark(7, " + t + ")", Edges::rich, x -> x.mark(7, of), NO);
        }
        // WEIGHT 2 and 3, HARM 5 and 0, ERROR -3, CANDLES 24.
        int[] ofFirst = {2, 7, 5, 14, 5, 26};
        int[] ofSecond = {3, 3, 6, 6, 7, 27};
        for (int kind = 0; kind <= 5; kind++) {
            TowerPrisoner x = rich();
            due("mark(" + kind + ", 0)", x.mark(kind, 0), ofFirst[kind]);
            due("mark(" + kind + ", 1)", x.mark(kind, 1), ofSecond[kind]);
        }
        for (int n : WILD) {
            refused("mark(" + n + ", 0)", Edges::rich, x -> x.mark(n, 0), NO);
        }
    }

    @Says("`int mark(int kind, int t)`: MARK. NO: BAD.")
    static void promise24_aTradeIs0ToTheLast() {
        for (int kind = 0; kind <= 5; kind++) {
            int as = kind;
            refused("mark(" + kind + ", -1)", Edges::rich, x -> x.mark(as, -1), NO);
            refused("mark(" + kind + ", 2)", Edges::rich, x -> x.mark(as, 2), NO);
            refused("mark(" + kind + ", 0), no TRADES", TowerPrisoner::new, x -> x.mark(as, 0), NO);
        }
        refused("both are wrong", Edges::rich, x -> x.mark(6, 2), NO);
        for (int n : WILD) {
            refused("mark(0, " + n + ")", Edges::rich, x -> x.mark(0, n), NO);
        }
        TowerPrisoner x = Check.told("h6 0;h7 0;h8 0;h9 0;");
        due("mark(0, 2) of 4", x.mark(0, 2), 8);
        due("mark(0, 3) of 4", x.mark(0, 3), 9);
        due("mark(4, 3) of 4", x.mark(4, 3), 12);
        due("mark(0, 4) of 4", x.mark(0, 4), NO);
    }

    @Says("MARK of a TRADE as if of a KIND (numbers in brackets come to THE TRACE as often as "
            + "mark() asks that body; \"up\" is what the KIND above does):")
    static void promise24_upIsWhatTheKindAboveDoes() {
        long[] traces = {1, 11, 101, 1011, 10101, 100001};
        for (int kind = 0; kind <= 5; kind++) {
            TowerPrisoner x = Check.told("h1 0;");
            x.mark(kind, 0);
            due("trace() of kind " + kind, x.trace(), traces[kind]);
            x.mark(kind, 0);
            due("trace() of kind " + kind + " twice", x.trace(), 2 * traces[kind]);
        }
    }

    @Says("TRADE its WEIGHT (1).")
    static void promise24_ofATrade() {
        due("WEIGHT 1", Check.told("h1 0;").mark(0, 0), 1);
        due("WEIGHT 2", Check.told("h2 0;").mark(0, 0), 2);
        due("WEIGHT 9", Check.told("h9 0;").mark(0, 0), 9);
    }

    @Says("BAKER up, and its HARM (10).")
    static void promise24_ofABaker() {
        due("HARM 0", Check.told("h9 1;").mark(1, 0), 9);
        TowerPrisoner x = at(9, times(14, "d0;") + "h9 1;r60;");
        for (int day = 0; day < 14; day++) {
            x.winds(0, 0);
        }
        due("HARM 1134", x.mark(1, 0), 1143);
    }

    @Says("COURT up less ERROR (100).")
    static void promise24_ofACourt() {
        due("-9", at(-9, "d0;h1 0;").mark(2, 0), 10);
        due("-1", at(-1, "d0;h1 0;").mark(2, 0), 2);
        due("0", at(0, "d0;h1 0;").mark(2, 0), 1);
        due("1", at(1, "d0;h1 0;").mark(2, 0), 0);
        due("2", at(2, "d0;h1 0;").mark(2, 0), -1);
        due("9", at(9, "d0;h1 0;").mark(2, 0), -8);
    }

    @Says("SWEETHEART up times 2 (1000).")
    static void promise24_ofASweetheart() {
        due("WEIGHT 1, HARM 0", Check.told("h1 0;").mark(3, 0), 2);
        due("WEIGHT 2, HARM 6", free().mark(3, 0), 16);
    }

    @Says("WIFE up, and its number (10000).")
    static void promise24_ofAWife() {
        TowerPrisoner x = at(9, "d0;h1 0;h1 0;h1 0;h1 0;");
        due("number 0", x.mark(4, 0), -8);
        due("number 1", x.mark(4, 1), -7);
        due("number 3", x.mark(4, 3), -5);
    }

    @Says("HEN up, and CANDLES (100000).")
    static void promise24_ofAHen() {
        due("CANDLES 0", Check.told("h9 0;").mark(5, 0), 9);
        due("CANDLES 9", free().mark(5, 0), 11);
        TowerPrisoner x = Check.told("d0;h9 0;" + times(6, "b0 1 0 20;"));
        x.winds(0, 0);
        due("CANDLES 120", x.mark(5, 0), 129);
    }

    // ---- keep and back

    @Says("`int keep(int image)`: An IMAGE is kept: THE DAY. BAD.")
    static void promise25_anImageIs0Or1() {
        refused("keep(-1)", Edges::rich, x -> x.keep(-1), BAD);
        due("keep(0)", rich().keep(0), 2);
        due("keep(1)", rich().keep(1), 2);
        refused("keep(2)", Edges::rich, x -> x.keep(2), BAD);
        for (int n : WILD) {
            refused("keep(" + n + ")", Edges::rich, x -> x.keep(n), BAD);
        }
        due("keep(0), no DAYS", new TowerPrisoner().keep(0), 0);
        due("keep(0), OVER", over().keep(0), 2);
        due("keep(1), FREE", free().keep(1), 1);
    }

    @Says({"IMAGES 0, 1 keep NOW (THE DAY, REST, ERROR, CANDLES, HARMS, FOUND, "
            + "what may be UNDONE);", "`int keep(int image)`: An IMAGE is kept: THE DAY. BAD."})
    static void promise25_theOneImageIsNotTheOther() {
        TowerPrisoner x = Check.told("d0;d0;d0;r60;");
        x.keep(0);
        x.winds(3, 0);
        x.keep(1);
        x.winds(3, 0);
        due("back(0)", x.back(0), 0);
        due("back(1)", x.back(1), 1);
        nows(x, 1, 53, 3);
        due("keep(0) anew", x.keep(0), 1);
        x.winds(-2, 0);
        due("back(0) anew", x.back(0), 1);
        due("ERROR", x.now(2), 3);
        due("back(1)", x.back(1), 1);
    }

    @Says("`int back(int image)`: All of that becomes as an IMAGE has it: THE DAY. "
            + "BAD; STATE: none was kept.")
    static void promise26_anImageIs0Or1() {
        refused("back(-1)", Edges::rich, x -> x.back(-1), BAD);
        due("back(0)", rich().back(0), 1);
        due("back(1)", rich().back(1), 2);
        refused("back(2)", Edges::rich, x -> x.back(2), BAD);
        for (int n : WILD) {
            refused("back(" + n + ")", Edges::rich, x -> x.back(n), BAD);
        }
    }

    @Says("`int back(int image)`: All of that becomes as an IMAGE has it: THE DAY. "
            + "BAD; STATE: none was kept.")
    static void promise26_noneWasKept() {
        refused("back(0), none", Edges::over, x -> x.back(0), STATE);
        refused("back(1), none", Edges::over, x -> x.back(1), STATE);
        refused("back(0), 1 alone", () -> kept(1), x -> x.back(0), STATE);
        refused("back(1), 0 alone", () -> kept(0), x -> x.back(1), STATE);
        due("back(1), 1 alone", kept(1).back(1), 2);
        due("back(0), 0 alone", kept(0).back(0), 2);
        TowerPrisoner x = rich();
        x.sentence();
        due("back(0), read anew", x.back(0), STATE);
        due("back(1), read anew", x.back(1), STATE);
        x.keep(0);
        due("back(0), kept anew", x.back(0), 0);
        due("back(1), not kept anew", x.back(1), STATE);
        x = rich();
        x.clear();
        Check.typed(x, "d1;x").sentence();
        due("back(0) behind a fault", x.back(0), 1);
        due("back(1) behind a fault", x.back(1), 2);
    }

    private static TowerPrisoner kept(int image) {
        TowerPrisoner x = over();
        x.keep(image);
        return x;
    }

    @Says(REFUSED)
    static void promise26_badComesAheadOfState() {
        refused("back(-1), none kept", Edges::over, x -> x.back(-1), BAD);
        refused("back(2), none kept", Edges::over, x -> x.back(2), BAD);
        refused("back(1), none kept", Edges::over, x -> x.back(1), STATE);
    }

    @Says("IMAGES 0, 1 keep NOW (THE DAY, REST, ERROR, CANDLES, HARMS, FOUND, "
            + "what may be UNDONE);")
    static void promise26_allOfNowAndWhatMayBeUndone() {
        TowerPrisoner x = rich();
        x.keep(0);
        x.pays(0, 5);
        x.corrects(9);
        x.winds(-1, 0);
        x.watches();
        due("back(0)", x.back(0), 2);
        nows(x, 2, 32, -3, 24, 5, 1, 0, 0);
        due("count(6)", x.count(6), 4);
        TowerPrisoner y = rich();
        y.keep(0);
        same("back", x, y);
        // As many as are known at most, each with all of it, and none when none was.
        x = Check.told(times(14, "d0;") + "h1 1;r60;l6;");
        x.keep(1);
        for (int i = 0; i < 11; i++) {
            x.winds(i % 2 == 0 ? 3 : -2, 0);
        }
        x.keep(0);
        due("back(1)", x.back(1), 0);
        due("undo() of none", x.undo(), STATE);
        due("back(0)", x.back(0), 11);
        for (int left = 9; left >= 0; left--) {
            due("undo()", x.undo(), left);
            due("THE DAY", x.now(0), left + 1);
        }
        due("undo() of none", x.undo(), STATE);
        due("back(0) again", x.back(0), 11);
        due("count(6) again", x.count(6), 10);
    }

    @Says("nothing else.")
    static void promise26_nothingElse() {
        TowerPrisoner x = rich();
        x.keep(0);
        x.hears(13, 0, 3);
        x.mark(4, 0);
        x.type('!');
        long trace = x.trace();
        due("back(0)", x.back(0), 2);
        due("HEARD", x.count(5), 3);
        due("THE TEXT", x.count(7), 9);
        due("THE TRACE", x.trace(), trace);
        counts(x, 4, 3, 2, 2, 4);
        x.forget();
        x.clear();
        x.back(1);
        due("HEARD, forgotten", x.count(5), 0);
        due("THE TEXT, cleared", x.count(7), 0);
        due("THE TRACE", x.trace(), 110102);
        // An IMAGE is not one of what may be UNDONE, and is not UNDONE itself.
        x = Check.told("d0;r60;");
        x.corrects(1);
        x.keep(0);
        x.undo();
        due("keep and back are not known", x.count(6), 0);
        due("back(0) behind undo()", x.back(0), 0);
        due("ERROR", x.now(2), 1);
    }

    // ---- count and trace

    @Says("`int count(int what)`: 0 DAYS, 1 BRIBES, 2 TRADES, 3 LIMIT, 4 ADDED, 5 HEARD, "
            + "6 how many may be UNDONE, 7 bytes of THE TEXT. BAD.")
    static void promise27_whatIs0To7() {
        refused("count(-1)", Edges::rich, x -> x.count(-1), BAD);
        counts(rich(), 4, 3, 2, 2, 4, 2, 4, 8);
        refused("count(8)", Edges::rich, x -> x.count(8), BAD);
        refused("count(9)", Edges::rich, x -> x.count(9), BAD);
        for (int n : WILD) {
            refused("count(" + n + ")", Edges::rich, x -> x.count(n), BAD);
        }
    }

    @Says("`int count(int what)`: 0 DAYS, 1 BRIBES, 2 TRADES, 3 LIMIT, 4 ADDED, 5 HEARD, "
            + "6 how many may be UNDONE, 7 bytes of THE TEXT. BAD.")
    static void promise27_atLeastAndAtMost() {
        counts(new TowerPrisoner(), 0, 0, 0, 2, 3, 0, 0, 0);
        counts(Check.told("l0;a0;"), 0, 0, 0, 0, 0, 0, 0, 0);
        TowerPrisoner x = Check.told(times(14, "d0;") + times(6, "b0 0 0 1;") + times(4, "h1 0;")
                + "l6;a9;");
        for (int i = 0; i < 11; i++) {
            x.watches();
        }
        for (int i = 0; i < 7; i++) {
            x.hears(i, 0, 0);
        }
        for (int i = 0; i < 151; i++) {
            x.type(32);
        }
        counts(x, 14, 6, 4, 6, 9, 6, 10, 150);
    }

    @Says("`long trace()`: THE TRACE.")
    static void promise28_theTraceIsOfMarksAlone() {
        TowerPrisoner x = new TowerPrisoner();
        due("trace() at first", x.trace(), 0);
        due("mark that is refused", x.mark(0, 0), NO);
        due("trace() behind it", x.trace(), 0);
        x = Check.told("d0;d0;h1 0;r60;");
        x.mark(5, 0);
        x.mark(6, 0);
        x.mark(-1, 0);
        x.mark(0, 1);
        due("trace() of one", x.trace(), 100001);
        due("trace() again", x.trace(), 100001);
        x.keep(0);
        x.mark(3, 0);
        x.winds(0, 0);
        x.undo();
        x.back(0);
        x.forget();
        x.clear();
        x.sentence();
        due("trace() behind all", x.trace(), 101012);
    }

    @Says("`long trace()`: THE TRACE.")
    static void promise28_theTraceOfMostMarks() {
        TowerPrisoner x = Check.told("h9 0;");
        for (int i = 0; i < 505; i++) {
            x.mark(5, 0);
        }
        due("trace() of 505 HENS", x.trace(), 50500505);
    }
}
