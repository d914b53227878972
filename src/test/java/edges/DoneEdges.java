/** Promises 8 to 13, "what is done": the edges that the document names, sentence by sentence. */
final class DoneEdges extends Edges {
    // For each DRAW 0 .. 9 a z that gives it on DAY 0.
    private static final int[] Z_OF_DRAW = {0, 2, 7, 3, 54, 15, 4, 9, 13, 8};

    private static final String UNDONE = "UNDONE: the latest TURNED, WATCHED, PAID, CORRECTED "
            + "(10 are known, older ones are lost):";

    // ---- winds: what is refused

    @Says("TURNED by a PACE (-2 .. 3),")
    static void promise08_aPaceIsMinus2To3() {
        refused("winds(-3, 0)", Edges::rich, x -> x.winds(-3, 0), BAD);
        for (int pace = -2; pace <= 3; pace++) {
            TowerPrisoner x = Check.told("d0;r60;");
            due("winds(" + pace + ", 0)", x.winds(pace, 0), 0);
            nows(x, 1, 56 - pace, pace, 0, 0, 0, 1, 0);
        }
        refused("winds(4, 0)", Edges::rich, x -> x.winds(4, 0), BAD);
        for (int n : WILD) {
            refused("winds(" + n + ", 0)", Edges::rich, x -> x.winds(n, 0), BAD);
        }
    }

    @Says("z (0 .. 9999), if it is not OVER,")
    static void promise08_zIs0To9999() {
        refused("winds(0, -1)", Edges::rich, x -> x.winds(0, -1), BAD);
        // DRAW is 0 by the first three, and 2 by 9999.
        for (int z : new int[] {0, 1, 9998}) {
            due("winds(0, " + z + "), SUN 0", Check.told("d0;").winds(0, z), 0);
            due("winds(0, " + z + "), SUN 1", Check.told("d1;").winds(0, z), 1);
        }
        due("winds(0, 9999), SUN 2", Check.told("d2;").winds(0, 9999), 0);
        due("winds(0, 9999), SUN 3", Check.told("d3;").winds(0, 9999), 1);
        refused("winds(0, 10000)", Edges::rich, x -> x.winds(0, 10000), BAD);
        for (int n : WILD) {
            refused("winds(0, " + n + ")", Edges::rich, x -> x.winds(0, n), BAD);
        }
    }

    @Says({"`int winds(int pace, int z)`: TURNED: 0 he was not CHECKED, 1 he was, and not FOUND, "
            + "2 FOUND.", "BAD; STATE: it is OVER, he is FREE, ERROR would be beyond."})
    static void promise08_answers0To2() {
        due("not CHECKED", Check.told("d0;").winds(3, 0), 0);
        due("CHECKED", Check.told("d10;").winds(2, 0), 1);
        due("FOUND", Check.told("d10;").winds(3, 0), 2);
        refused("winds(3, 0), OVER", Edges::over, x -> x.winds(3, 0), STATE);
        refused("winds(3, 0), FREE", Edges::free, x -> x.winds(3, 0), STATE);
        refused("winds(3, 0), beyond", () -> at(7, "d0;"), x -> x.winds(3, 0), STATE);
        refused("winds(4, 0)", () -> at(7, "d0;"), x -> x.winds(4, 0), BAD);
    }

    @Says({"THE DAY is 0 at first;", "at last it is as many as DAYS there are (it is OVER)."})
    static void promise08_thereAreAsManyTurnsAsDays() {
        refused("no DAYS", TowerPrisoner::new, x -> x.winds(0, 0), STATE);
        for (int days = 1; days <= 14; days++) {
            String text = times(days, "d0;") + "r60;";
            TowerPrisoner x = Check.told(text);
            for (int day = 0; day < days; day++) {
                due("THE DAY", x.now(0), day);
                due("OVER", x.now(6), 0);
                due("winds(0, 0)", x.winds(0, 0), 0);
            }
            due("THE DAY at last", x.now(0), days);
            due("OVER at last", x.now(6), 1);
            due("winds(0, 0) at last", x.winds(0, 0), STATE);
            nows(x, days, 60 - 4 * days, 0, 0, 0, 0, 1, 0);
        }
        for (int pace = -2; pace <= 3; pace++) {
            int p = pace;
            refused("winds(" + p + ", 9999), OVER", Edges::over, x -> x.winds(p, 9999), STATE);
        }
    }

    @Says("he is not FREE,")
    static void promise08_noTurnWhenHeIsFree() {
        TowerPrisoner x = Check.told("d0;d0;r5;");
        due("REST 5 by 0", x.winds(0, 0), 0);
        due("REST", x.now(1), 1);
        due("REST 1 by 0", x.winds(0, 0), 0);
        for (int pace = -2; pace <= 3; pace++) {
            int p = pace;
            refused("REST 0", () -> {
                TowerPrisoner y = Check.told("d0;d0;r4;");
                y.winds(0, 0);
                return y;
            }, y -> y.winds(p, 0), STATE);
        }
        refused("FREE and OVER", Edges::freeAndOver, y -> y.winds(0, 0), STATE);
    }

    @Says({"ERROR would not be beyond -9 .. 9:",
        "ERROR (-9 .. 9: below 0 the clock is slow) is 0,"})
    static void promise08_errorIsMinus9To9() {
        String text = "d0;d0;r60;";
        for (int pace = -2; pace <= 3; pace++) {
            int p = pace;
            for (int error = -9; error <= 9; error++) {
                int e = error;
                int then = e + p;
                if (then < -9 || then > 9) {
                    refused("winds(" + p + ", 0) at " + e, () -> at(e, text),
                            x -> x.winds(p, 0), STATE);
                } else {
                    TowerPrisoner x = at(e, text);
                    due("winds(" + p + ", 0) at " + e, x.winds(p, 0), 0);
                    due("ERROR", x.now(2), then);
                }
            }
        }
        // The edges as they stand, by literals.
        due("6 and 3", at(6, text).winds(3, 0), 0);
        due("7 and 3", at(7, text).winds(3, 0), STATE);
        due("8 and 1", at(8, text).winds(1, 0), 0);
        due("9 and 0", at(9, text).winds(0, 0), 0);
        due("9 and 1", at(9, text).winds(1, 0), STATE);
        due("-7 and -2", at(-7, text).winds(-2, 0), 0);
        due("-8 and -2", at(-8, text).winds(-2, 0), STATE);
        due("-8 and -1", at(-8, text).winds(-1, 0), 0);
        due("-9 and 0", at(-9, text).winds(0, 0), 0);
        due("-9 and -1", at(-9, text).winds(-1, 0), STATE);
    }

    @Says(REFUSED)
    static void promise08_badComesAheadOfState() {
        refused("OVER, pace 4", Edges::over, x -> x.winds(4, 0), BAD);
        refused("OVER, pace -3", Edges::over, x -> x.winds(-3, 0), BAD);
        refused("OVER, z -1", Edges::over, x -> x.winds(0, -1), BAD);
        refused("OVER, z 10000", Edges::over, x -> x.winds(0, 10000), BAD);
        refused("OVER, z 9999", Edges::over, x -> x.winds(0, 9999), STATE);
        refused("FREE, pace 4", Edges::free, x -> x.winds(4, 0), BAD);
        refused("FREE, z 10000", Edges::free, x -> x.winds(0, 10000), BAD);
        refused("beyond 9, pace 4", () -> at(9, "d0;"), x -> x.winds(4, 0), BAD);
        refused("beyond 9, z 10000", () -> at(9, "d0;"), x -> x.winds(3, 10000), BAD);
        refused("beyond 9, z 9999", () -> at(9, "d0;"), x -> x.winds(3, 9999), STATE);
    }

    // ---- winds: what it does

    @Says({"ERROR is PACE more;", "REST is 4 and PACE less (0 at least);"})
    static void promise08_restIs0AtLeast() {
        int[][] wants = {
            // PACE, REST ahead of it, REST then
            {3, 8, 1}, {3, 7, 0}, {3, 6, 0}, {3, 1, 0}, {2, 7, 1}, {2, 6, 0}, {2, 5, 0},
            {1, 6, 1}, {1, 5, 0}, {1, 4, 0}, {0, 5, 1}, {0, 4, 0}, {0, 3, 0},
            {-1, 4, 1}, {-1, 3, 0}, {-1, 2, 0}, {-2, 3, 1}, {-2, 2, 0}, {-2, 1, 0},
        };
        for (int[] w : wants) {
            TowerPrisoner x = Check.told("d0;r" + w[1] + ";");
            due("winds(" + w[0] + ", 0)", x.winds(w[0], 0), 0);
            due("REST of " + w[1], x.now(1), w[2]);
            due("FREE by REST of " + w[1], x.now(7), w[2] == 0 ? 1 : 0);
            due("ERROR", x.now(2), w[0]);
        }
    }

    @Says({"He is FREE as soon as REST is 0 (not at first).", "he is FREE if REST is 0."})
    static void promise08_freeAsSoonAsRestIs0() {
        due("FREE at first", new TowerPrisoner().now(7), 0);
        due("FREE at first by r1", Check.told("d0;r1;").now(7), 0);
        TowerPrisoner x = Check.told("d0;d0;d0;r9;");
        x.winds(0, 0);
        nows(x, 1, 5, 0, 0, 0, 0, 0, 0);
        x.winds(0, 0);
        nows(x, 2, 1, 0, 0, 0, 0, 0, 0);
        x.winds(0, 0);
        nows(x, 3, 0, 0, 0, 0, 0, 1, 1);
        x = Check.told("d0;d0;d0;r8;");
        x.winds(0, 0);
        x.winds(0, 0);
        nows(x, 2, 0, 0, 0, 0, 0, 0, 1);
    }

    @Says("he has CANDLES of each BRIBE of THE DAY that PACE is as it wants")
    static void promise08_theSidesOfABribe() {
        for (int bound = -2; bound <= 3; bound++) {
            for (int pace = -2; pace <= 3; pace++) {
                candles("b0 0 " + (bound + 2) + " 8;", pace, pace <= bound ? 8 : 0);
                candles("b0 1 " + (bound + 2) + " 8;", pace, pace >= bound ? 8 : 0);
            }
        }
        candles("b0 0 3 8;", 0, 8);
        candles("b0 0 3 8;", 1, 8);
        candles("b0 0 3 8;", 2, 0);
        candles("b0 1 3 8;", 0, 0);
        candles("b0 1 3 8;", 1, 8);
        candles("b0 1 3 8;", 2, 8);
        candles("b0 0 3 8;b0 1 3 5;b0 0 2 7;b0 1 4 9;", 1, 13);
    }

    private static void candles(String bribes, int pace, int want) {
        TowerPrisoner x = Check.told("d0;" + bribes);
        x.winds(pace, 0);
        due("CANDLES of " + bribes + " by " + pace, x.now(3), want);
    }

    @Says("he has CANDLES of each BRIBE of THE DAY that PACE is as it wants")
    static void promise08_aBribeIsOfItsDayAlone() {
        TowerPrisoner x = Check.told("d0;d0;d0;b1 1 0 8;b3 1 0 5;b13 1 0 5;r60;");
        int[] wants = {0, 8, 8};
        for (int want : wants) {
            x.winds(0, 0);
            due("CANDLES", x.now(3), want);
        }
        x = Check.told(times(14, "d0;") + "b13 1 0 5;b12 1 0 3;r60;");
        for (int day = 0; day < 14; day++) {
            due("CANDLES ahead of DAY " + day, x.now(3), day < 13 ? 0 : 3);
            x.winds(0, 0);
        }
        due("CANDLES behind DAY 13", x.now(3), 8);
    }

    @Says("(999 at most);")
    static void promise08_candlesNeverComeTo999() {
        // Six BRIBES of 20, once each, are the most that can be: 999 is never cut.
        TowerPrisoner x = Check.told("d0;d0;" + times(6, "b0 1 0 20;") + "r60;");
        x.winds(0, 0);
        due("CANDLES", x.now(3), 120);
        x.winds(0, 0);
        due("CANDLES a day behind", x.now(3), 120);
    }

    @Says({"HARM of each trade is more", "by WEIGHT times ERROR, if ERROR is on its SIDE "
            + "(SIDE 0: below 0, that much without its sign);"})
    static void promise08_harmIsOnItsSide() {
        int[][] wants = {{-9, 27, 0}, {-2, 6, 0}, {-1, 3, 0}, {0, 0, 0}, {1, 0, 5}, {2, 0, 10},
            {9, 0, 45}};
        for (int[] w : wants) {
            TowerPrisoner x = at(w[0], "d0;h3 0;h5 1;");
            x.winds(0, 0);
            due("HARM of the slow at " + w[0], x.trade(0, 2), w[1]);
            due("HARM of the quick at " + w[0], x.trade(1, 2), w[2]);
            due("HARM of all at " + w[0], x.now(4), w[1] + w[2]);
        }
        // ERROR is PACE more ahead of that, and 0 by being FOUND behind it.
        TowerPrisoner x = Check.told("d10;h5 1;");
        due("FOUND", x.winds(3, 0), 2);
        due("HARM", x.trade(0, 2), 15);
    }

    @Says("(9999 at most)")
    static void promise08_harmNeverComesTo9999() {
        // 14 DAYS of ERROR 9 by WEIGHT 9 are the most that can be: 9999 is never cut.
        for (int error : new int[] {9, -9}) {
            String trade = error > 0 ? "h9 1;" : "h9 0;";
            TowerPrisoner x = at(error, times(14, "d0;") + times(4, trade) + "r60;");
            for (int day = 0; day < 14; day++) {
                x.winds(0, 0);
            }
            due("HARM", x.trade(3, 2), 1134);
            due("HARM of all", x.now(4), 4536);
        }
    }

    @Says("then he is CHECKED, if DRAW is below SUN of THE DAY:")
    static void promise08_drawIsBelowSun() {
        for (int draw = 0; draw <= 9; draw++) {
            int z = Z_OF_DRAW[draw];
            for (int sun = Math.max(0, draw - 1); sun <= draw; sun++) {
                due("DRAW " + draw + ", SUN " + sun, Check.told("d" + sun + ";").winds(3, z), 0);
            }
            due("DRAW " + draw + ", one more", Check.told("d" + (draw + 1) + ";").winds(3, z), 2);
            due("DRAW " + draw + ", SUN 10", Check.told("d10;").winds(2, z), 1);
            due("DRAW " + draw + ", SUN 0", Check.told("d0;").winds(3, z), 0);
        }
    }

    @Says("((q times q) modulo 65521) by 8, cut, modulo 10, "
            + "q being 7919 z, 6151 times THE DAY, and 1 together;")
    static void promise08_drawAtTheEdgesOfZAndTheDay() {
        int[][] draws = {{0, 0, 0}, {0, 1, 0}, {0, 9998, 0}, {0, 9999, 2}, {1, 0, 5}, {1, 1, 2},
            {1, 9998, 7}, {1, 9999, 6}, {2, 0, 7}, {2, 1, 0}, {13, 0, 3}, {13, 1, 6},
            {13, 9998, 4}, {13, 9999, 9}};
        for (int[] d : draws) {
            due("SUN as DRAW of " + d[0] + ", " + d[1], turnOf(d[0], d[1], d[2]), 0);
            due("SUN above DRAW of " + d[0] + ", " + d[1], turnOf(d[0], d[1], d[2] + 1), 1);
        }
    }

    private static int turnOf(int day, int z, int sun) {
        TowerPrisoner x = Check.told(times(day, "d0;") + "d" + sun + ";r60;");
        for (int d = 0; d < day; d++) {
            x.winds(0, 0);
        }
        return x.winds(0, z);
    }

    @Says("it is the next DAY;")
    static void promise08_theNextDayWhetherFoundOrNot() {
        TowerPrisoner x = Check.told("d0;d10;d10;r60;");
        due("not CHECKED", x.winds(2, 0), 0);
        due("THE DAY", x.now(0), 1);
        due("CHECKED", x.winds(0, 0), 1);
        due("THE DAY", x.now(0), 2);
        due("FOUND", x.winds(1, 0), 2);
        due("THE DAY", x.now(0), 3);
    }

    @Says("CHECKED: if ERROR (without its sign) is above LIMIT, he is FOUND (counted):")
    static void promise08_foundAboveLimit() {
        int[][] wants = {
            // LIMIT, ERROR, what winds() answers
            {0, -1, 2}, {0, 0, 1}, {0, 1, 2}, {1, -2, 2}, {1, -1, 1}, {1, 1, 1}, {1, 2, 2},
            {2, -3, 2}, {2, -2, 1}, {2, -1, 1}, {2, 1, 1}, {2, 2, 1}, {2, 3, 2},
            {6, -9, 2}, {6, -7, 2}, {6, -6, 1}, {6, -5, 1}, {6, 5, 1}, {6, 6, 1}, {6, 7, 2},
            {6, 9, 2},
        };
        for (int[] w : wants) {
            TowerPrisoner x = at(w[1], "d10;r60;a9;l" + w[0] + ";");
            due("LIMIT " + w[0] + ", ERROR " + w[1], x.winds(0, 0), w[2]);
            boolean found = w[2] == 2;
            nows(x, 1, found ? 65 : 56, found ? 0 : w[1], 0, 0, found ? 1 : 0, 1, 0);
        }
    }

    @Says("ERROR is 0, REST is ADDED more (99 at most).")
    static void promise08_restIs99AtMostBehindATurn() {
        int[][] wants = {
            // ADDED, PACE, REST of 99 then
            {1, -2, 98}, {2, -2, 99}, {3, -2, 99}, {4, -2, 99}, {9, -2, 99},
            {2, -1, 98}, {3, -1, 99}, {4, -1, 99}, {6, 3, 98}, {7, 3, 99}, {8, 3, 99},
        };
        for (int[] w : wants) {
            TowerPrisoner x = Check.told("d10;d10;r60;l0;a" + w[0] + ";");
            for (int i = 0; i < 39 && x.now(1) < 99; i++) {
                x.corrects(1);
                x.watches();
            }
            due("REST", x.now(1), 99);
            due("FOUND", x.winds(w[1], 0), 2);
            due("REST by ADDED " + w[0] + ", PACE " + w[1], x.now(1), w[2]);
            due("ERROR", x.now(2), 0);
        }
    }

    @Says({"ERROR is 0, REST is ADDED more (99 at most).", "he is FREE if REST is 0."})
    static void promise08_foundAheadOfBeingFree() {
        TowerPrisoner x = Check.told("d10;d10;r7;l2;a0;");
        due("ADDED 0", x.winds(3, 0), 2);
        nows(x, 1, 0, 0, 0, 0, 1, 0, 1);
        x = Check.told("d10;d10;r7;l2;a1;");
        due("ADDED 1", x.winds(3, 0), 2);
        nows(x, 1, 1, 0, 0, 0, 1, 0, 0);
        x = Check.told("d10;d10;r6;l2;a9;");
        due("ADDED to 0, not below it", x.winds(3, 0), 2);
        nows(x, 1, 9, 0, 0, 0, 1, 0, 0);
    }

    // ---- watches

    @Says({"WATCHED: he is CHECKED by a candle NOW (not when it is OVER, he is FREE).",
        "`int watches()`: WATCHED: 1 not FOUND, 2 FOUND. STATE: it is OVER, he is FREE."})
    static void promise09_notWhenItIsOverOrHeIsFree() {
        refused("OVER", Edges::over, TowerPrisoner::watches, STATE);
        refused("FREE", Edges::free, TowerPrisoner::watches, STATE);
        refused("FREE and OVER", Edges::freeAndOver, TowerPrisoner::watches, STATE);
        refused("no DAYS", TowerPrisoner::new, TowerPrisoner::watches, STATE);
        TowerPrisoner x = Check.told("d0;d0;r9;");
        due("DAY 0", x.watches(), 1);
        x.winds(0, 0);
        due("DAY 1, REST 5", x.watches(), 1);
        x.winds(0, 0);
        due("OVER, REST 1", x.watches(), STATE);
        x = Check.told("d0;d0;r5;");
        x.winds(0, 0);
        due("REST 1", x.watches(), 1);
        x = Check.told("d0;d0;r4;");
        x.winds(0, 0);
        due("REST 0", x.watches(), STATE);
    }

    @Says("CHECKED: if ERROR (without its sign) is above LIMIT, he is FOUND (counted):")
    static void promise09_foundAboveLimit() {
        int[][] wants = {{0, -1, 2}, {0, 0, 1}, {0, 1, 2}, {2, -3, 2}, {2, -2, 1}, {2, -1, 1},
            {2, 1, 1}, {2, 2, 1}, {2, 3, 2}, {6, -7, 2}, {6, -6, 1}, {6, -5, 1}, {6, 5, 1},
            {6, 6, 1}, {6, 7, 2}};
        for (int[] w : wants) {
            TowerPrisoner x = at(w[1], "d0;h1 1;h1 0;b0 1 0 9;a5;l" + w[0] + ";");
            due("LIMIT " + w[0] + ", ERROR " + w[1], x.watches(), w[2]);
            boolean found = w[2] == 2;
            nows(x, 0, found ? 25 : 20, found ? 0 : w[1], 0, 0, found ? 1 : 0, 0, 0);
        }
    }

    @Says("ERROR is 0, REST is ADDED more (99 at most).")
    static void promise09_restIs99AtMost() {
        int[][] wants = {{53, 98, 99}, {54, 99, 99}, {55, 99, 99}};
        for (int[] w : wants) {
            TowerPrisoner x = Check.told("d0;l6;a9;r" + w[0] + ";");
            for (int i = 1; i <= 5; i++) {
                x.corrects(i % 2 == 0 ? 7 : -7);
                due("watches()", x.watches(), 2);
                due("FOUND", x.now(5), i);
            }
            due("REST of " + w[0] + " and 45", x.now(1), w[1]);
            x.corrects(9);
            due("watches() once more", x.watches(), 2);
            nows(x, 0, w[2], 0, 0, 0, 6, 0, 0);
        }
        TowerPrisoner x = at(9, "d0;a0;r60;");
        due("ADDED 0", x.watches(), 2);
        nows(x, 0, 60, 0, 0, 0, 1, 0, 0);
    }

    // ---- pays

    @Says("`int pays(int t, int n)`: PAID: HARM that is left. BAD; STATE: he has not so many.")
    static void promise10_aTradeIs0ToTheLast() {
        refused("pays(-1, 1)", Edges::rich, x -> x.pays(-1, 1), BAD);
        due("pays(0, 1)", rich().pays(0, 1), 4);
        due("pays(1, 1)", rich().pays(1, 1), 0);
        refused("pays(2, 1)", Edges::rich, x -> x.pays(2, 1), BAD);
        refused("pays(0, 1) of no TRADES", TowerPrisoner::new, x -> x.pays(0, 1), BAD);
        for (int n : WILD) {
            refused("pays(" + n + ", 1)", Edges::rich, x -> x.pays(n, 1), BAD);
        }
        TowerPrisoner x = Check.told("d0;b0 1 0 9;h1 1;h2 1;h3 1;h4 1;");
        x.winds(2, 0);
        due("pays(3, 1) of 4", x.pays(3, 1), 7);
        due("pays(4, 1) of 4", x.pays(4, 1), BAD);
    }

    private static TowerPrisoner harmed() {
        TowerPrisoner x = at(9, "d0;d0;d0;h9 1;h9 1;r60;" + times(6, "b0 1 0 20;"));
        x.winds(0, 0);
        x.winds(0, 0);
        return x;
    }

    @Says("PAID: n (1 .. 99) CANDLES to a trade:")
    static void promise10_from1To99Candles() {
        refused("pays(0, 0)", DoneEdges::harmed, x -> x.pays(0, 0), BAD);
        refused("pays(0, -1)", DoneEdges::harmed, x -> x.pays(0, -1), BAD);
        int[] paid = {1, 2, 98, 99};
        for (int n : paid) {
            TowerPrisoner x = harmed();
            due("pays(0, " + n + ")", x.pays(0, n), 162 - n);
            nows(x, 2, 52, 9, 120 - n, 324 - n, 0, 0, 0);
            due("HARM of the other", x.trade(1, 2), 162);
        }
        due("pays(1, 99)", harmed().pays(1, 99), 63);
        refused("pays(0, 100)", DoneEdges::harmed, x -> x.pays(0, 100), BAD);
        refused("pays(0, 101)", DoneEdges::harmed, x -> x.pays(0, 101), BAD);
        for (int n : WILD) {
            refused("pays(0, " + n + ")", DoneEdges::harmed, x -> x.pays(0, n), BAD);
        }
    }

    @Says("its HARM is n less (0 at least).")
    static void promise10_harmIs0AtLeast() {
        // HARM is 6, and of the other 0.
        due("5 of 6", free().pays(0, 5), 1);
        due("6 of 6", free().pays(0, 6), 0);
        TowerPrisoner x = free();
        due("7 of 6", x.pays(0, 7), 0);
        nows(x, 1, 0, 3, 2, 0, 0, 0, 1);
        due("1 of 0", x.pays(0, 1), 0);
        due("CANDLES", x.now(3), 1);
    }

    @Says("`int pays(int t, int n)`: PAID: HARM that is left. BAD; STATE: he has not so many.")
    static void promise10_asManyCandlesAsHeHas() {
        // He has 24.
        TowerPrisoner x = rich();
        due("23 of 24", x.pays(1, 23), 0);
        due("CANDLES", x.now(3), 1);
        x = rich();
        due("24 of 24", x.pays(1, 24), 0);
        due("CANDLES", x.now(3), 0);
        due("1 of 0", x.pays(1, 1), STATE);
        refused("25 of 24", Edges::rich, y -> y.pays(1, 25), STATE);
        refused("99 of 24", Edges::rich, y -> y.pays(0, 99), STATE);
        refused("1 of none", () -> at(1, "d0;h1 1;"), y -> y.pays(0, 1), STATE);
        // 120 less 22 are 98, one too few for 99.
        x = harmed();
        x.pays(1, 22);
        due("99 of 98", x.pays(0, 99), STATE);
        due("98 of 98", x.pays(0, 98), 64);
    }

    @Says(REFUSED)
    static void promise10_badComesAheadOfState() {
        refused("t 1 of 1, no CANDLES", () -> at(1, "d0;h1 1;"), x -> x.pays(1, 1), BAD);
        refused("t -1, no CANDLES", () -> at(1, "d0;h1 1;"), x -> x.pays(-1, 1), BAD);
        refused("n 0, no CANDLES", () -> at(1, "d0;h1 1;"), x -> x.pays(0, 0), BAD);
        refused("n 100, no CANDLES", () -> at(1, "d0;h1 1;"), x -> x.pays(0, 100), BAD);
        refused("n 99, no CANDLES", () -> at(1, "d0;h1 1;"), x -> x.pays(0, 99), STATE);
    }

    @Says("PAID: n (1 .. 99) CANDLES to a trade:")
    static void promise10_paidWhenItIsOverOrHeIsFreeToo() {
        // OVER and FREE are told to stop turns, watches and corrections alone.
        TowerPrisoner x = over();
        due("OVER", x.pays(0, 9), 3);
        nows(x, 2, 19, 3, 0, 3, 0, 1, 0);
        due("FREE", free().pays(0, 4), 2);
        due("FREE and OVER", freeAndOver().pays(0, 4), 2);
    }

    // ---- corrects

    @Says({"CORRECTED by n (-9 .. 9, not 0; not when it is OVER, he is FREE):",
        "`int corrects(int n)`: CORRECTED: ERROR then. NO: BAD, it is OVER, he is FREE, "
            + "ERROR would be beyond."})
    static void promise11_fromMinus9To9AndNot0() {
        refused("corrects(-10)", () -> at(5, "d0;"), x -> x.corrects(-10), NO);
        refused("corrects(-10) at 0", () -> at(0, "d0;"), x -> x.corrects(-10), NO);
        int[] sizes = {-9, -8, -1, 1, 8, 9};
        for (int n : sizes) {
            TowerPrisoner x = Check.told("d0;h1 0;h1 1;");
            due("corrects(" + n + ")", x.corrects(n), n);
            nows(x, 0, 20, n, 0, 0, 0, 0, 0);
        }
        refused("corrects(0)", () -> at(0, "d0;"), x -> x.corrects(0), NO);
        refused("corrects(0) at 5", () -> at(5, "d0;"), x -> x.corrects(0), NO);
        refused("corrects(10)", () -> at(-5, "d0;"), x -> x.corrects(10), NO);
        refused("corrects(10) at 0", () -> at(0, "d0;"), x -> x.corrects(10), NO);
        for (int n : WILD) {
            refused("corrects(" + n + ")", Edges::rich, x -> x.corrects(n), NO);
        }
    }

    @Says("ERROR is n more.")
    static void promise11_errorIsNeverBeyond() {
        due("8 and 1", at(8, "d0;").corrects(1), 9);
        refused("8 and 2", () -> at(8, "d0;"), x -> x.corrects(2), NO);
        refused("9 and 1", () -> at(9, "d0;"), x -> x.corrects(1), NO);
        due("9 and -1", at(9, "d0;").corrects(-1), 8);
        due("9 and -9", at(9, "d0;").corrects(-9), 0);
        due("1 and 8", at(1, "d0;").corrects(8), 9);
        refused("1 and 9", () -> at(1, "d0;"), x -> x.corrects(9), NO);
        due("-8 and -1", at(-8, "d0;").corrects(-1), -9);
        refused("-8 and -2", () -> at(-8, "d0;"), x -> x.corrects(-2), NO);
        refused("-9 and -1", () -> at(-9, "d0;"), x -> x.corrects(-1), NO);
        due("-9 and 1", at(-9, "d0;").corrects(1), -8);
        due("-9 and 9", at(-9, "d0;").corrects(9), 0);
        due("-1 and -8", at(-1, "d0;").corrects(-8), -9);
        refused("-1 and -9", () -> at(-1, "d0;"), x -> x.corrects(-9), NO);
        due("-1 and 1", at(-1, "d0;").corrects(1), 0);
    }

    @Says("CORRECTED by n (-9 .. 9, not 0; not when it is OVER, he is FREE):")
    static void promise11_notWhenItIsOverOrHeIsFree() {
        for (int n = -10; n <= 10; n++) {
            int by = n;
            refused("OVER, " + n, Edges::over, x -> x.corrects(by), NO);
            refused("FREE, " + n, Edges::free, x -> x.corrects(by), NO);
        }
        refused("FREE and OVER", Edges::freeAndOver, x -> x.corrects(1), NO);
        refused("no DAYS", TowerPrisoner::new, x -> x.corrects(1), NO);
        TowerPrisoner x = Check.told("d0;d0;r9;");
        x.winds(0, 0);
        due("the last DAY, REST 5", x.corrects(1), 1);
        x.winds(0, 0);
        due("OVER, REST 1", x.corrects(1), NO);
        x = Check.told("d0;d0;r5;");
        x.winds(0, 0);
        due("REST 1", x.corrects(-1), -1);
        x = Check.told("d0;d0;r4;");
        x.winds(0, 0);
        due("REST 0", x.corrects(-1), NO);
    }

    // ---- undo

    @Says({UNDONE,
        "`int undo()`: UNDONE: how many more may be. STATE: none."})
    static void promise12_tenAreKnown() {
        refused("undo() of none", TowerPrisoner::new, TowerPrisoner::undo, STATE);
        refused("undo() of none told", () -> Check.told("d0;r9;"), TowerPrisoner::undo, STATE);
        for (int deeds = 1; deeds <= 12; deeds++) {
            TowerPrisoner x = Check.told("d0;");
            for (int i = 0; i < deeds; i++) {
                x.corrects(i < 9 ? 1 : -1);
            }
            int known = Math.min(10, deeds);
            due("count(6) of " + deeds, x.count(6), known);
            for (int left = known - 1; left >= 0; left--) {
                due("undo() of " + deeds, x.undo(), left);
            }
            due("undo() of none", x.undo(), STATE);
            due("ERROR", x.now(2), deeds <= 10 ? 0 : deeds - 10);
            due("count(6) of none", x.count(6), 0);
        }
    }

    @Says(UNDONE)
    static void promise12_the11thLosesTheFirst() {
        TowerPrisoner x = ofDeeds(9);
        due("the 9th undone", x.undo(), 8);
        x = ofDeeds(10);
        due("the 10th undone", x.undo(), 9);
        for (int left = 8; left >= 0; left--) {
            due("undo()", x.undo(), left);
        }
        due("THE DAY of ten undone", x.now(0), 0);
        x = ofDeeds(11);
        due("the 11th undone", x.undo(), 9);
        for (int left = 8; left >= 0; left--) {
            due("undo()", x.undo(), left);
        }
        due("THE DAY of eleven undone", x.now(0), 1);
        due("REST of eleven undone", x.now(1), 58);
        due("undo() of the first", x.undo(), STATE);
        // What was undone makes room: one more is known, and no older one comes back.
        x.winds(0, 0);
        due("undo() of the new", x.undo(), 0);
        due("undo() of none", x.undo(), STATE);
    }

    private static TowerPrisoner ofDeeds(int deeds) {
        TowerPrisoner x = Check.told(times(14, "d0;") + "r60;l6;");
        for (int i = 0; i < deeds; i++) {
            due("winds", x.winds(i % 2 == 0 ? -2 : 2, 0), 0);
        }
        return x;
    }

    @Says("all is as ahead of it.")
    static void promise12_allIsAsAheadOfIt() {
        // ERROR is -3 here: watched, he is FOUND, and then he has all to lose by each deed.
        TowerPrisoner x = rich();
        due("winds", x.winds(3, 7), 0);
        due("undo() of winds", x.undo(), 4);
        same("winds undone", x, rich());
        x = rich();
        due("watches", x.watches(), 2);
        due("undo() of watches", x.undo(), 4);
        same("watches undone", x, rich());
        x = rich();
        due("pays", x.pays(0, 5), 0);
        due("undo() of pays", x.undo(), 4);
        same("pays undone", x, rich());
        x = rich();
        due("corrects", x.corrects(9), 6);
        due("undo() of corrects", x.undo(), 4);
        same("corrects undone", x, rich());
        x = Check.told("d10;d10;b0 1 0 20;b0 1 5 20;h9 1;r60;l0;a9;");
        due("winds, found", x.winds(3, 0), 2);
        due("undo() of winds, found", x.undo(), 0);
        same("found undone", x, Check.told("d10;d10;b0 1 0 20;b0 1 5 20;h9 1;r60;l0;a9;"));
    }

    @Says("all is as ahead of it.")
    static void promise12_overAndFreeAreUndone() {
        TowerPrisoner x = freeAndOver();
        nows(x, 1, 0, 3, 9, 6, 0, 1, 1);
        due("undo()", x.undo(), 0);
        nows(x, 0, 7, 0, 0, 0, 0, 0, 0);
        due("winds once more", x.winds(-2, 0), 0);
        nows(x, 1, 5, -2, 0, 0, 0, 1, 0);
    }

    @Says(UNDONE)
    static void promise12_whatWasNotFoundOrChangedNothingIsUndoneToo() {
        TowerPrisoner x = Check.told("d0;b0 1 0 9;h1 1;r9;");
        due("watches, not FOUND", x.watches(), 1);
        due("count(6)", x.count(6), 1);
        due("undo()", x.undo(), 0);
        x.winds(0, 0);
        due("pays of HARM 0", x.pays(0, 9), 0);
        due("count(6)", x.count(6), 2);
        due("undo()", x.undo(), 1);
        due("CANDLES", x.now(3), 9);
    }

    @Says(UNDONE)
    static void promise12_whatWasRefusedOrAskedIsNotKnown() {
        TowerPrisoner x = Check.told("d0;d0;h1 1;");
        x.winds(4, 0);
        x.winds(0, 10000);
        x.pays(0, 1);
        x.pays(0, 0);
        x.corrects(0);
        x.corrects(10);
        x.hears(0, 0, 0);
        x.mark(0, 0);
        x.keep(0);
        x.soonest();
        x.chance(2, 0);
        x.safe(0);
        x.least(2, 0);
        x.catches(1);
        x.type('d');
        due("count(6)", x.count(6), 0);
        due("undo()", x.undo(), STATE);
        due("count(5)", x.count(5), 1);
        due("count(7)", x.count(7), 1);
    }

    // ---- now

    @Says("`int now(int what)`: 0 THE DAY, 1 REST, 2 ERROR, 3 CANDLES, 4 HARM of all, "
            + "5 FOUND (how often), 6 whether it is OVER (1, 0), 7 whether he is FREE (1, 0). "
            + "NO: BAD.")
    static void promise13_whatIs0To7() {
        refused("now(-1)", Edges::rich, x -> x.now(-1), NO);
        nows(rich(), 2, 32, -3, 24, 5, 1, 0, 0);
        refused("now(8)", Edges::rich, x -> x.now(8), NO);
        refused("now(9)", Edges::rich, x -> x.now(9), NO);
        for (int n : WILD) {
            refused("now(" + n + ")", Edges::rich, x -> x.now(n), NO);
        }
    }

    @Says("CANDLES, HARM of each trade, FOUND are 0 at first.")
    static void promise13_allIs0AtFirst() {
        TowerPrisoner x = Check.told("d10;b0 1 0 20;h9 0;h9 1;r60;l6;a9;");
        nows(x, 0, 60, 0, 0, 0, 0, 0, 0);
        due("trade(0, 2)", x.trade(0, 2), 0);
        due("trade(1, 2)", x.trade(1, 2), 0);
    }

    @Says("at last it is as many as DAYS there are (it is OVER).")
    static void promise13_overAtTheLastDayBehindTheOthers() {
        nows(over(), 2, 19, 3, 9, 12, 0, 1, 0);
        nows(free(), 1, 0, 3, 9, 6, 0, 0, 1);
        nows(freeAndOver(), 1, 0, 3, 9, 6, 0, 1, 1);
        TowerPrisoner x = over();
        x.undo();
        due("OVER, one day less", x.now(6), 0);
        due("OVER, no DAYS", new TowerPrisoner().now(6), 1);
        due("OVER, one DAY", Check.told("d0;").now(6), 0);
    }
}
