import java.util.List;
import java.util.function.ToLongFunction;

/** Promises 14 to 18, "what he should do": the edges that the document names, one by one. */
final class AdviceEdges extends Edges {
    // ---- soonest

    @Says("SOONEST: behind how many days he can be FREE at best, if nobody CHECKS him (0: he is;")
    static void promise14_isHeFreeNow() {
        due("REST 0", free().soonest(), 0);
        due("REST 0, OVER", freeAndOver().soonest(), 0);
        TowerPrisoner x = Check.told("d0;d0;r5;");
        x.winds(0, 0);
        due("REST 1", x.soonest(), 1);
        x.winds(-2, 0);
        due("REST 0 behind two days", x.soonest(), 0);
        due("nobody CHECKS", Check.told("d10;d10;r14;l0;a9;").soonest(), 2);
    }

    @Says("SOONEST: behind how many days he can be FREE at best, if nobody CHECKS him (0: he is;")
    static void promise14_sevenADay() {
        int[][] wants = {{1, 1}, {6, 1}, {7, 1}, {8, 2}, {13, 2}, {14, 2}, {15, 3}, {20, 3},
            {21, 3}, {22, 4}};
        for (int[] w : wants) {
            due("REST " + w[0], Check.told(TEN_DAYS + "r" + w[0] + ";").soonest(), w[1]);
        }
    }

    @Says({"of those days that there are); NONE.", "`int soonest()`: SOONEST; NONE."})
    static void promise14_noMoreDaysThanThereAre() {
        due("no DAYS", new TowerPrisoner().soonest(), NONE);
        due("OVER, REST 19", over().soonest(), NONE);
        due("one DAY, REST 7", Check.told("d0;r7;").soonest(), 1);
        due("one DAY, REST 8", Check.told("d0;r8;").soonest(), NONE);
        due("two DAYS, REST 14", Check.told("d0;d0;r14;").soonest(), 2);
        due("two DAYS, REST 15", Check.told("d0;d0;r15;").soonest(), NONE);
        due("three DAYS, REST 15", Check.told("d0;d0;d0;r15;").soonest(), 3);
        TowerPrisoner x = Check.told("d0;d0;d0;r18;");
        x.winds(0, 0);
        due("two DAYS left, REST 14", x.soonest(), 2);
        x = Check.told("d0;d0;d0;r19;");
        x.winds(0, 0);
        due("two DAYS left, REST 15", x.soonest(), NONE);
        String text = times(14, "d0;") + "r60;";
        due("14 DAYS, REST 60 at 1", at(1, text).soonest(), 13);
        due("14 DAYS, REST 60 at 2", at(2, text).soonest(), 14);
        due("14 DAYS, REST 60 at 5", at(5, text).soonest(), 14);
        due("14 DAYS, REST 60 at 6", at(6, text).soonest(), NONE);
        due("13 DAYS, REST 60 at 1", at(1, times(13, "d0;") + "r60;").soonest(), 13);
        due("13 DAYS, REST 60 at 2", at(2, times(13, "d0;") + "r60;").soonest(), NONE);
    }

    @Says("(Nothing is changed; PACES are always such that ERROR is not beyond -9 .. 9.)")
    static void promise14_errorIsNeverBeyond9() {
        int[][] wants = {
            // ERROR, REST, SOONEST
            {9, 4, 1}, {9, 5, 2}, {8, 5, 1}, {8, 6, 2}, {7, 6, 1}, {7, 7, 2}, {6, 7, 1},
            {6, 8, 2}, {5, 8, 2}, {-9, 7, 1}, {-9, 8, 2}, {0, 24, 4}, {0, 25, 4}, {0, 26, 5},
            {0, 29, 5}, {0, 30, 6}, {-9, 42, 6}, {-9, 43, 7}, {-9, 46, 7}, {-9, 47, 8},
        };
        for (int[] w : wants) {
            due("ERROR " + w[0] + ", REST " + w[1],
                    at(w[0], TEN_DAYS + "r" + w[1] + ";").soonest(), w[2]);
        }
    }

    @Says("(Nothing is changed; PACES are always such that ERROR is not beyond -9 .. 9.)")
    static void allPromises_from14To18AreAskedWithoutAChange() {
        TowerPrisoner x = rich();
        x.soonest();
        for (int what = -1; what <= 3; what++) {
            x.chance(2, what);
            x.chance(8, what);
            x.safe(what);
            x.least(2, what);
            x.least(14, what);
        }
        for (int pace = -3; pace <= 4; pace++) {
            x.catches(pace);
        }
        same("asked", x, rich());
    }

    private static final List<ToLongFunction<TowerPrisoner>> ADVICE = List.of(
            x -> x.soonest(), x -> x.safe(0), x -> x.safe(1), x -> x.least(2, 0),
            x -> x.least(2, 1), x -> x.least(0, 1), x -> x.chance(2, 0), x -> x.chance(2, 1),
            x -> x.chance(2, 2), x -> x.chance(0, 0), x -> x.chance(0, 1), x -> x.chance(0, 2),
            x -> x.catches(1), x -> x.could(3), x -> x.ways(), x -> x.ask());

    private static TowerPrisoner turned(String text, int turns) {
        TowerPrisoner x = Check.told(text);
        for (int i = 0; i < turns; i++) {
            x.winds(1, 0);
        }
        return x;
    }

    @Says("(Nothing is changed; PACES are always such that ERROR is not beyond -9 .. 9.)")
    static void allPromises_whatWasAskedAheadIsNothingToAnAnswer() {
        for (int rest = 4; rest <= 20; rest++) {
            String text = "d5;d5;b0 1 5 9;b1 0 0 8;h2 1;h1 0;l3;r" + rest + ";";
            TowerPrisoner forwards = Check.told(text);
            TowerPrisoner backwards = Check.told(text);
            for (int turns = 0; turns <= 2; turns++) {
                String when = "REST " + rest + ", turns " + turns + ", call ";
                for (int k = 0; k < ADVICE.size(); k++) {
                    int last = ADVICE.size() - 1 - k;
                    due(when + k, ADVICE.get(k).applyAsLong(forwards),
                            ADVICE.get(k).applyAsLong(turned(text, turns)));
                    due(when + last + " backwards", ADVICE.get(last).applyAsLong(backwards),
                            ADVICE.get(last).applyAsLong(turned(text, turns)));
                }
                forwards.winds(1, 0);
                backwards.winds(1, 0);
            }
        }
    }

    // ---- chance

    private static void chance(String when, TowerPrisoner x, int n, int upper, int lower,
            int pace) {
        due(when + ": chance(" + n + ", 0)", x.chance(n, 0), upper);
        due(when + ": chance(" + n + ", 1)", x.chance(n, 1), lower);
        due(when + ": chance(" + n + ", 2)", x.chance(n, 2), pace);
    }

    @Says("CHANCE within n days (0 .. 8; as many of them as there are):")
    static void promise15_from0To8Days() {
        for (int what = 0; what < 3; what++) {
            int part = what;
            refused("chance(-1, " + what + ")", Edges::rich, x -> x.chance(-1, part), NO);
            refused("chance(9, " + what + ")", Edges::rich, x -> x.chance(9, part), NO);
        }
        chance("n is 0", Check.told("d0;r1;"), 0, 0, 1, NONE);
        chance("n is 1", Check.told("d0;r1;"), 1, 1, 1, -2);
        // 7 days show 37 at most, for ERROR is 9 then, and 8 days 41.
        TowerPrisoner x = Check.told(TEN_DAYS + "r37;");
        chance("REST 37", x, 6, 0, 1, -2);
        chance("REST 37", x, 7, 1, 1, -2);
        x = Check.told(TEN_DAYS + "r38;");
        chance("REST 38", x, 7, 0, 1, -2);
        chance("REST 38", x, 8, 1, 1, -2);
        chance("REST 41", Check.told(TEN_DAYS + "r41;"), 8, 1, 1, -2);
        chance("REST 42", Check.told(TEN_DAYS + "r42;"), 8, 0, 1, -2);
        for (int n : WILD) {
            due("chance(" + n + ", 0)", x.chance(n, 0), NO);
        }
    }

    @Says("CHANCE within n days (0 .. 8; as many of them as there are):")
    static void promise15_noMoreDaysThanThereAre() {
        TowerPrisoner x = Check.told("d0;d0;r14;");
        chance("two DAYS, REST 14", x, 1, 0, 1, -2);
        for (int n = 2; n <= 8; n++) {
            chance("two DAYS, REST 14", x, n, 1, 1, 3);
        }
        x = Check.told("d0;d0;r15;");
        for (int n = 1; n <= 8; n++) {
            chance("two DAYS, REST 15", x, n, 0, 1, -2);
        }
        x = Check.told("d0;d0;r12;");
        x.winds(1, 0);
        for (int n = 1; n <= 8; n++) {
            chance("one DAY left, REST 7", x, n, 1, 1, 3);
        }
    }

    @Says("`int chance(int n, int what)`: CHANCE: upper (what = 0), lower number (1), "
            + "in least terms; the PACE (2; NONE). NO: BAD.")
    static void promise15_whatIs0To2() {
        for (int n = 0; n <= 8; n += 4) {
            int days = n;
            refused("chance(" + n + ", -1)", Edges::rich, x -> x.chance(days, -1), NO);
            refused("chance(" + n + ", 3)", Edges::rich, x -> x.chance(days, 3), NO);
            refused("chance(" + n + ", 4)", Edges::rich, x -> x.chance(days, 4), NO);
        }
        TowerPrisoner x = Check.told("d3;r7;");
        due("chance(1, 0)", x.chance(1, 0), 7);
        due("chance(1, 1)", x.chance(1, 1), 10);
        due("chance(1, 2)", x.chance(1, 2), 3);
        due("chance(9, 3)", x.chance(9, 3), NO);
        for (int what : WILD) {
            due("chance(1, " + what + ")", x.chance(1, what), NO);
        }
    }

    @Says("each day CHECKED by SUN of 10 (he need not know z): a fraction;")
    static void promise15_sunOf10InLeastTerms() {
        int[][] wants = {{0, 1, 1, 3}, {1, 9, 10, 3}, {2, 4, 5, 3}, {3, 7, 10, 3}, {4, 3, 5, 3},
            {5, 1, 2, 3}, {6, 2, 5, 3}, {7, 3, 10, 3}, {8, 1, 5, 3}, {9, 1, 10, 3}, {10, 0, 1, -2}};
        for (int[] w : wants) {
            chance("SUN " + w[0], Check.told("d" + w[0] + ";r7;"), 1, w[1], w[2], w[3]);
        }
    }

    @Says("`int chance(int n, int what)`: CHANCE: upper (what = 0), lower number (1), "
            + "in least terms; the PACE (2; NONE). NO: BAD.")
    static void promise15_theLowerNumberIsAHundredMillionAtMost() {
        chance("nothing is common", Check.told("d7;d1;d9;d3;d3;d7;d9;d1;r45;l0;a1;"), 8,
                98946009, 100000000, 3);
        chance("nothing is common", Check.told("d1;d3;d1;d1;d7;d3;d1;d1;r47;l2;a2;"), 8,
                66485187, 100000000, 3);
        chance("sure in 8 days", Check.told(times(8, "d10;") + "r32;l0;a9;"), 8, 1, 1, 0);
        chance("none in 8 days", Check.told(times(8, "d10;") + "r33;l0;a9;"), 8, 0, 1, -2);
    }

    @Says("the greatest chance, whatever he sees of each day before he turns the next one, "
            + "that he is FREE by then,")
    static void promise15_whateverHeSees() {
        // One row of PACES, chosen ahead, comes to 17 of 25 and to 1 of 2 at most.
        chance("he sees", Check.told("d4;d6;d5;r13;l0;a4;"), 3, 4, 5, 2);
        chance("he sees", Check.told("d5;d10;d8;r16;l2;a4;"), 3, 3, 5, 3);
    }

    @Says("the greatest chance, whatever he sees of each day before he turns the next one, "
            + "that he is FREE by then,")
    static void promise15_freeByThenAndNotADayBehind() {
        // Unfound by 9 of 10, REST is 0; found, it is ADDED, and a day more brings that.
        chance("a day", Check.told("d1;d0;r7;l2;a3;"), 1, 9, 10, 3);
        chance("two days", Check.told("d1;d0;r7;l2;a3;"), 2, 1, 1, -2);
        chance("REST 6", Check.told("d10;r6;l2;"), 1, 1, 1, 2);
        chance("REST 7", Check.told("d10;r7;l2;"), 1, 0, 1, -2);
    }

    @Says("CHECKED: if ERROR (without its sign) is above LIMIT, he is FOUND (counted):")
    static void promise15_foundAboveLimit() {
        chance("PACE 3, LIMIT 3", Check.told("d10;r7;l3;"), 1, 1, 1, 3);
        chance("PACE 3, LIMIT 4", Check.told("d10;r7;l4;"), 1, 1, 1, 3);
        chance("PACE 3, LIMIT 2", Check.told("d10;r7;l2;"), 1, 0, 1, -2);
        chance("PACE 0, LIMIT 0", Check.told("d10;r4;l0;"), 1, 1, 1, 0);
        chance("PACE 1, LIMIT 0", Check.told("d10;r5;l0;"), 1, 0, 1, -2);
        chance("slow at LIMIT", at(-5, "d10;r7;l2;"), 1, 1, 1, 3);
        chance("slow above LIMIT", at(-6, "d10;r7;l2;"), 1, 0, 1, -2);
        chance("slow below LIMIT", at(-4, "d10;r7;l2;"), 1, 1, 1, 3);
    }

    @Says("ERROR is 0, REST is ADDED more (99 at most).")
    static void promise15_addedToTheRestOfTheFound() {
        chance("ADDED 0", Check.told("d10;r7;l2;a0;"), 1, 1, 1, 3);
        chance("ADDED 1", Check.told("d10;r7;l2;a1;"), 1, 0, 1, -2);
        // Found each day, he begins at 0 again: 7 on each of them.
        chance("56 in 8 days", Check.told(times(8, "d10;") + "r56;l0;a0;"), 8, 1, 1, 3);
        chance("57 in 8 days", Check.told(times(8, "d10;") + "r57;l0;a0;"), 8, 0, 1, -2);
        chance("55 in 8 days", Check.told(times(8, "d10;") + "r55;l0;a0;"), 8, 1, 1, 2);
        TowerPrisoner x = Check.told("d10;d10;r60;l0;a9;");
        for (int i = 0; i < 6; i++) {
            x.corrects(1);
            x.watches();
        }
        due("REST", x.now(1), 99);
        chance("REST 99", x, 8, 0, 1, -2);
    }

    @Says("a fraction; the PACE of THE DAY by which it is so, the lowest; "
            + "NONE (OVER, FREE, n is 0).")
    static void promise15_theLowestPace() {
        int[][] wants = {{8, -2}, {9, -2}, {10, -1}, {11, 0}, {12, 1}, {13, 2}, {14, 3}};
        for (int[] w : wants) {
            chance("REST " + w[0], Check.told("d0;d0;r" + w[0] + ";"), 2, 1, 1, w[1]);
        }
        chance("all are alike", Check.told("d0;d0;r15;"), 2, 0, 1, -2);
        chance("REST 2", Check.told("d0;r2;"), 1, 1, 1, -2);
        chance("REST 3", Check.told("d0;r3;"), 1, 1, 1, -1);
        chance("the lowest that is free", Check.told("d0;r6;"), 1, 1, 1, 2);
    }

    @Says("(Nothing is changed; PACES are always such that ERROR is not beyond -9 .. 9.)")
    static void promise15_pacesStayWithin9() {
        chance("9, REST 4", at(9, "d0;r4;"), 1, 1, 1, 0);
        chance("9, REST 5", at(9, "d0;r5;"), 1, 0, 1, -2);
        chance("8, REST 5", at(8, "d0;r5;"), 1, 1, 1, 1);
        chance("8, REST 6", at(8, "d0;r6;"), 1, 0, 1, -2);
        chance("6, REST 7", at(6, "d0;r7;"), 1, 1, 1, 3);
        chance("7, REST 7", at(7, "d0;r7;"), 1, 0, 1, -2);
        chance("-9, REST 8", at(-9, "d0;r8;"), 1, 0, 1, 0);
        chance("-8, REST 8", at(-8, "d0;r8;"), 1, 0, 1, -1);
        chance("-7, REST 8", at(-7, "d0;r8;"), 1, 0, 1, -2);
        chance("-9, REST 1", at(-9, "d0;r1;"), 1, 1, 1, 0);
    }

    @Says("NONE (OVER, FREE, n is 0).")
    static void promise15_noPace() {
        for (int n = 0; n <= 8; n++) {
            chance("OVER", over(), n, 0, 1, NONE);
            chance("FREE", free(), n, 1, 1, NONE);
            chance("FREE and OVER", freeAndOver(), n, 1, 1, NONE);
            chance("no DAYS", new TowerPrisoner(), n, 0, 1, NONE);
        }
        chance("n is 0", Check.told("d0;r1;"), 0, 0, 1, NONE);
    }

    // ---- safe

    private static void safe(String when, TowerPrisoner x, int candles, int pace) {
        due(when + ": safe(0)", x.safe(0), candles);
        due(when + ": safe(1)", x.safe(1), pace);
    }

    @Says("`int safe(int what)`: SAFE: how many (what = 0; NONE), the PACE (1; NONE). NO: BAD.")
    static void promise16_whatIs0Or1() {
        refused("safe(-1)", Edges::rich, x -> x.safe(-1), NO);
        safe("what is 0 and 1", Check.told("d0;b0 1 4 9;"), 9, 2);
        refused("safe(2)", Edges::rich, x -> x.safe(2), NO);
        refused("safe(3), OVER", Edges::over, x -> x.safe(3), NO);
        for (int what : WILD) {
            refused("safe(" + what + ")", Edges::rich, x -> x.safe(what), NO);
        }
    }

    @Says("SAFE: the most CANDLES he can take from NOW till it is OVER, or he is FREE, "
            + "if ERROR is never beyond LIMIT at the end of a day:")
    static void promise16_neverBeyondLimit() {
        safe("3, LIMIT 2", Check.told("d0;b0 1 5 9;l2;"), 0, -2);
        safe("3, LIMIT 3", Check.told("d0;b0 1 5 9;l3;"), 9, 3);
        safe("3, LIMIT 4", Check.told("d0;b0 1 5 9;l4;"), 9, 3);
        safe("-2, LIMIT 1", Check.told("d0;b0 0 0 9;l1;"), 0, -1);
        safe("-2, LIMIT 2", Check.told("d0;b0 0 0 9;l2;"), 9, -2);
        safe("-2, LIMIT 3", Check.told("d0;b0 0 0 9;l3;"), 9, -2);
        safe("1, LIMIT 0", Check.told("d0;b0 1 3 9;l0;"), 0, 0);
        safe("0, LIMIT 0", Check.told("d0;b0 1 2 9;l0;"), 9, 0);
        String two = "d0;d0;b0 1 5 9;b1 1 5 9;r60;l";
        safe("3 and 3, LIMIT 5", Check.told(two + "5;"), 9, -2);
        safe("3 and 3, LIMIT 6", Check.told(two + "6;"), 18, 3);
        // SUN is nothing to that: he could be found on the one day and not on the other.
        safe("SUN 0, LIMIT 2", Check.told("d0;d10;b0 1 5 9;l2;"), 0, -2);
    }

    @Says("SAFE: the most CANDLES he can take from NOW till it is OVER, or he is FREE, "
            + "if ERROR is never beyond LIMIT at the end of a day:")
    static void promise16_beyondLimitNowButNotAtTheEndOfTheDay() {
        safe("3", at(3, "d0;b0 0 0 9;l2;"), 9, -2);
        safe("4", at(4, "d0;b0 0 0 9;l2;"), 9, -2);
        safe("5", at(5, "d0;b0 0 0 9;l2;"), NONE, NONE);
        safe("-4", at(-4, "d0;b0 1 5 9;l2;"), 9, 3);
        safe("-5", at(-5, "d0;b0 1 5 9;l2;"), 9, 3);
        safe("-6", at(-6, "d0;b0 1 5 9;l2;"), NONE, NONE);
        safe("8, LIMIT 6", at(8, "d0;l6;"), 0, -2);
        safe("9, LIMIT 6", at(9, "d0;l6;"), NONE, NONE);
        safe("-9, LIMIT 6", at(-9, "d0;l6;"), 0, 3);
        safe("-9, LIMIT 5", at(-9, "d0;l5;"), NONE, NONE);
    }

    @Says("SAFE: the most CANDLES he can take from NOW till it is OVER, or he is FREE, "
            + "if ERROR is never beyond LIMIT at the end of a day:")
    static void promise16_tillItIsOver() {
        String text = "d0;d0;d0;b0 1 0 20;b1 1 0 7;b2 1 0 5;b3 1 0 11;r60;";
        safe("three DAYS", Check.told(text), 32, -2);
        TowerPrisoner x = Check.told(text);
        x.winds(0, 0);
        safe("two DAYS left, whatever he has", x, 12, -2);
        x.winds(0, 0);
        safe("one DAY left", x, 5, -2);
        x.winds(0, 0);
        safe("OVER", x, 0, NONE);
        safe("all that can be told", Check.told("d0;" + times(6, "b0 1 0 20;") + "r60;"), 120, -2);
        safe("DAY 13", Check.told(times(14, "d0;") + "b13 1 5 20;r60;"), 20, -2);
    }

    @Says("SAFE: the most CANDLES he can take from NOW till it is OVER, or he is FREE, "
            + "if ERROR is never beyond LIMIT at the end of a day:")
    static void promise16_tillHeIsFree() {
        safe("REST 3", Check.told("d0;d0;b1 1 0 9;r3;"), 9, -2);
        safe("REST 2", Check.told("d0;d0;b1 1 0 9;r2;"), 0, -2);
        safe("REST 1", Check.told("d0;d0;b1 1 0 9;r1;"), 0, -2);
        safe("the day that frees him", Check.told("d0;d0;b0 1 0 3;b1 1 0 9;r2;"), 3, -2);
        safe("a day more", Check.told("d0;d0;b0 1 0 3;b1 1 0 9;r3;"), 12, -2);
        // PACE 2 brings 4 and freedom: 9 a day behind are more.
        safe("less now", Check.told("d0;d0;b0 1 4 4;b1 1 0 9;r6;"), 9, -2);
        safe("more now", Check.told("d0;d0;b0 1 4 10;b1 1 0 9;r6;"), 10, 2);
        safe("both", Check.told("d0;d0;b0 1 4 4;b1 1 0 9;r7;"), 13, 2);
    }

    @Says("how many (0, if it is OVER, he is FREE);")
    static void promise16_noneToTakeWhenItIsOverOrHeIsFree() {
        due("OVER", over().safe(0), 0);
        due("FREE", free().safe(0), 0);
        due("FREE and OVER", freeAndOver().safe(0), 0);
        due("no DAYS", new TowerPrisoner().safe(0), 0);
        due("no BRIBES", Check.told("d0;").safe(0), 0);
        // ERROR is above LIMIT in all of these but the last two.
        due("ERROR of OVER", over().now(2), 3);
    }

    @Says("the PACE of THE DAY by which it is so, the lowest; NONE (there is no such way; "
            + "OVER, FREE for the PACE).")
    static void promise16_theLowestPaceOrNone() {
        safe("all are alike", Check.told("d0;"), 0, -2);
        safe("at least 0", Check.told("d0;b0 1 2 9;"), 9, 0);
        safe("at least -1", Check.told("d0;b0 1 1 9;"), 9, -1);
        safe("at most 0", Check.told("d0;b0 0 2 9;"), 9, -2);
        safe("alike on two ways", Check.told("d0;b0 0 1 9;b0 1 4 9;"), 9, -2);
        safe("one more on the higher", Check.told("d0;b0 0 1 9;b0 1 4 10;"), 10, 2);
        safe("the lowest within LIMIT", at(1, "d0;l0;"), 0, -1);
        due("OVER", over().safe(1), NONE);
        due("FREE", free().safe(1), NONE);
        due("FREE and OVER", freeAndOver().safe(1), NONE);
        due("no DAYS", new TowerPrisoner().safe(1), NONE);
        safe("no such way", at(5, "d0;d0;"), NONE, NONE);
    }

    // ---- least

    private static void least(String when, TowerPrisoner x, int n, int harm, int pace) {
        due(when + ": least(" + n + ", 0)", x.least(n, 0), harm);
        due(when + ": least(" + n + ", 1)", x.least(n, 1), pace);
    }

    @Says("LEAST within n days (0 .. 14; as many as there are):")
    static void promise17_from0To14Days() {
        for (int what = 0; what < 2; what++) {
            int part = what;
            refused("least(-1, " + what + ")", Edges::rich, x -> x.least(-1, part), NO);
            refused("least(15, " + what + ")", Edges::rich, x -> x.least(15, part), NO);
        }
        least("n is 0", Check.told("d0;r1;"), 0, NONE, NONE);
        least("n is 1", Check.told("d0;r1;"), 1, 0, -2);
        // From 5 up to 9 in 14 days, down to 0 between them: 3, 1, 0 .. 0, 3, 6, 9.
        String text = times(14, "d0;") + "h1 1;r60;";
        TowerPrisoner x = at(5, text);
        least("at 5", x, 12, NONE, NONE);
        least("at 5", x, 13, NONE, NONE);
        least("at 5", x, 14, 22, -2);
        least("at 6", at(6, text), 14, NONE, NONE);
        for (int n : WILD) {
            refused("least(" + n + ", 0)", Edges::rich, y -> y.least(n, 0), NO);
        }
    }

    @Says("LEAST within n days (0 .. 14; as many as there are):")
    static void promise17_noMoreDaysThanThereAre() {
        TowerPrisoner x = Check.told("d0;d0;h1 1;r14;");
        least("two DAYS, REST 14", x, 1, NONE, NONE);
        for (int n = 2; n <= 14; n++) {
            least("two DAYS, REST 14", x, n, 9, 3);
        }
        least("two DAYS, REST 15", Check.told("d0;d0;h1 1;r15;"), 14, NONE, NONE);
        x = Check.told("d0;d0;h1 1;r12;");
        x.winds(1, 0);
        for (int n = 1; n <= 14; n++) {
            least("one DAY left, REST 7", x, n, 4, 3);
        }
        least("one DAY left, n is 0", x, 0, NONE, NONE);
        due("what is harmed already is not counted", x.now(4), 1);
    }

    @Says("`int least(int n, int what)`: LEAST: how much (what = 0; NONE), the PACE (1; NONE). "
            + "NO: BAD.")
    static void promise17_whatIs0Or1() {
        refused("least(2, -1)", Edges::rich, x -> x.least(2, -1), NO);
        TowerPrisoner x = Check.told("d0;h2 1;r7;");
        due("least(1, 0)", x.least(1, 0), 6);
        due("least(1, 1)", x.least(1, 1), 3);
        refused("least(2, 2)", Edges::rich, y -> y.least(2, 2), NO);
        refused("least(0, 2)", Edges::rich, y -> y.least(0, 2), NO);
        refused("least(15, 2)", Edges::rich, y -> y.least(15, 2), NO);
        for (int what : WILD) {
            refused("least(2, " + what + ")", Edges::rich, y -> y.least(2, what), NO);
        }
    }

    @Says("of all rows of PACES by which he is FREE by then, if nobody CHECKS him "
            + "(he turns no more then),")
    static void promise17_freeByThen() {
        int[][] wants = {
            // REST, harm, PACE: the one DAY must show it all.
            {1, 0, -2}, {2, 0, -2}, {3, 0, -1}, {4, 0, 0}, {5, 1, 1}, {6, 2, 2}, {7, 3, 3},
            {8, NONE, NONE},
        };
        for (int[] w : wants) {
            least("REST " + w[0], Check.told("d0;h1 1;r" + w[0] + ";"), 1, w[1], w[2]);
        }
        least("nobody CHECKS", Check.told("d10;d10;h1 1;r14;l0;a9;"), 2, 9, 3);
        // A day more would harm by 45 at least: those that are not turned harm nothing.
        String quick = "d0;d0;d0;h9 1;r";
        least("no more then, REST 4", at(9, quick + "4;"), 3, 81, 0);
        least("no more then, REST 3", at(9, quick + "3;"), 3, 72, -1);
        least("no more then, REST 2", at(9, quick + "2;"), 3, 63, -2);
        least("no more then, REST 5", at(9, quick + "5;"), 3, 117, -2);
    }

    @Says("that by which HARM of all trades together is least more: how much;")
    static void promise17_harmOfAllTrades() {
        least("no TRADES", Check.told("d0;r5;"), 1, 0, 1);
        least("one", Check.told("d0;h1 1;r7;"), 1, 3, 3);
        least("all four", Check.told("d0;h1 1;h2 1;h3 1;h4 0;r7;"), 1, 18, 3);
        least("of the slow", at(-9, "d0;h1 0;h2 1;r7;"), 1, 6, 3);
        least("of the slow, REST 4", at(-9, "d0;h1 0;r4;"), 1, 6, 3);
        least("of the quick at 9", at(9, "d0;h9 1;r4;"), 1, 81, 0);
    }

    @Says("the PACE of THE DAY by which it is so, the lowest; NONE (none; FREE for the PACE).")
    static void promise17_theLowestPaceOrNone() {
        int[][] wants = {{8, -2}, {9, -2}, {10, -1}, {11, 0}, {12, 1}, {13, 2}, {14, 3}};
        for (int[] w : wants) {
            least("no TRADES, REST " + w[0], Check.told("d0;d0;r" + w[0] + ";"), 2, 0, w[1]);
        }
        for (int n = 0; n <= 14; n += 7) {
            least("FREE", free(), n, 0, NONE);
            least("FREE and OVER", freeAndOver(), n, 0, NONE);
            least("OVER", over(), n, NONE, NONE);
            least("no DAYS", new TowerPrisoner(), n, NONE, NONE);
        }
    }

    @Says("(Nothing is changed; PACES are always such that ERROR is not beyond -9 .. 9.)")
    static void promise17_pacesStayWithin9() {
        least("9, REST 4", at(9, "d0;r4;"), 1, 0, 0);
        least("9, REST 5", at(9, "d0;r5;"), 1, NONE, NONE);
        least("8, REST 5", at(8, "d0;r5;"), 1, 0, 1);
        least("6, REST 7", at(6, "d0;r7;"), 1, 0, 3);
        least("7, REST 7", at(7, "d0;r7;"), 1, NONE, NONE);
        least("-9, REST 1", at(-9, "d0;r1;"), 1, 0, 0);
        least("-8, REST 1", at(-8, "d0;r1;"), 1, 0, -1);
        least("-7, REST 1", at(-7, "d0;r1;"), 1, 0, -2);
    }

    // ---- catches

    @Says("`int catches(int pace)`: CATCH; NONE. BAD.")
    static void promise18_aPaceIsMinus2To3() {
        refused("catches(-3)", Edges::rich, x -> x.catches(-3), BAD);
        int[] wants = {2, 3, NONE, 3, 2, 1};
        for (int pace = -2; pace <= 3; pace++) {
            TowerPrisoner x = Check.told(TEN_DAYS + "r60;l2;");
            due("catches(" + pace + ")", x.catches(pace), wants[pace + 2]);
        }
        refused("catches(4)", Edges::rich, x -> x.catches(4), BAD);
        refused("catches(4), OVER", Edges::over, x -> x.catches(4), BAD);
        refused("catches(-3), FREE", Edges::free, x -> x.catches(-3), BAD);
        for (int n : WILD) {
            refused("catches(" + n + ")", Edges::rich, x -> x.catches(n), BAD);
        }
    }

    @Says("CATCH by a PACE: behind how many days of it ERROR is above LIMIT (without its sign) "
            + "first, of those that there are (0: it is NOW);")
    static void promise18_aboveLimit() {
        int[][] wants = {
            // LIMIT, PACE, days
            {0, 1, 1}, {1, 1, 2}, {2, 1, 3}, {6, 1, 7}, {0, -1, 1}, {1, -1, 2}, {5, -1, 6},
            {2, 3, 1}, {3, 3, 2}, {4, 3, 2}, {5, 3, 2}, {6, 3, 3}, {1, -2, 1}, {2, -2, 2},
            {3, -2, 2}, {4, -2, 3}, {0, 0, NONE},
        };
        for (int[] w : wants) {
            TowerPrisoner x = Check.told(TEN_DAYS + "r60;l" + w[0] + ";");
            due("LIMIT " + w[0] + ", PACE " + w[1], x.catches(w[1]), w[2]);
        }
    }

    @Says("CATCH by a PACE: behind how many days of it ERROR is above LIMIT (without its sign) "
            + "first, of those that there are (0: it is NOW);")
    static void promise18_aboveLimitNow() {
        for (int pace = -2; pace <= 3; pace++) {
            due("3, LIMIT 2", at(3, "d0;l2;").catches(pace), 0);
            due("-3, LIMIT 2", at(-3, "d0;l2;").catches(pace), 0);
            due("9, LIMIT 6", at(9, "d0;l6;").catches(pace), 0);
            due("-9, LIMIT 6", at(-9, "d0;l6;").catches(pace), 0);
        }
        due("2, LIMIT 2, by 0", at(2, "d0;l2;").catches(0), NONE);
        due("2, LIMIT 2, by 1", at(2, "d0;l2;").catches(1), 1);
        due("1, LIMIT 2, by 1", at(1, "d0;d0;l2;").catches(1), 2);
        due("-2, LIMIT 2, by 0", at(-2, "d0;l2;").catches(0), NONE);
        due("-2, LIMIT 2, by -1", at(-2, "d0;l2;").catches(-1), 1);
        due("2, LIMIT 2, all the way down", at(2, TEN_DAYS + "r60;l2;").catches(-1), 5);
    }

    @Says("CATCH by a PACE: behind how many days of it ERROR is above LIMIT (without its sign) "
            + "first, of those that there are (0: it is NOW);")
    static void promise18_noMoreDaysThanThereAre() {
        due("two DAYS of three", Check.told("d0;d0;r60;l2;").catches(1), NONE);
        due("three DAYS of three", Check.told("d0;d0;d0;r60;l2;").catches(1), 3);
        due("four DAYS", Check.told("d0;d0;d0;d0;r60;l2;").catches(1), 3);
        TowerPrisoner x = Check.told("d0;d0;d0;r60;l2;");
        x.winds(0, 0);
        due("two DAYS are left", x.catches(1), NONE);
        x.undo();
        due("three again", x.catches(1), 3);
    }

    @Says("NONE (never, or it would go beyond -9 .. 9, or he is FREE ahead of that, or OVER).")
    static void promise18_freeAheadOfThat() {
        // By 1, 5 are shown a day, and ERROR is above LIMIT behind three days.
        int[][] wants = {{5, NONE}, {9, NONE}, {10, NONE}, {11, 3}, {14, 3}, {15, 3}, {16, 3}};
        for (int[] w : wants) {
            TowerPrisoner x = Check.told("d0;d0;d0;d0;l2;r" + w[0] + ";");
            due("REST " + w[0], x.catches(1), w[1]);
        }
        // The day that frees him is CHECKED ahead of that, so he is not FREE ahead of it.
        due("REST 7 by 3", Check.told("d0;l2;r7;").catches(3), 1);
        due("REST 7 by 3, LIMIT 3", Check.told("d0;d0;l3;r7;").catches(3), NONE);
        due("REST 8 by 3, LIMIT 3", Check.told("d0;d0;l3;r8;").catches(3), 2);
    }

    @Says("NONE (never, or it would go beyond -9 .. 9, or he is FREE ahead of that, or OVER).")
    static void promise18_neverOrOverOrFree() {
        due("never", Check.told(TEN_DAYS + "r60;l0;").catches(0), NONE);
        due("OVER at 3, LIMIT 2", over().catches(3), NONE);
        due("OVER at 3, LIMIT 2, by 0", over().catches(0), NONE);
        due("FREE at 3, LIMIT 2", free().catches(3), NONE);
        due("FREE and OVER at 3, LIMIT 2", freeAndOver().catches(3), NONE);
        due("no DAYS", new TowerPrisoner().catches(3), NONE);
        // LIMIT is 6 at most: ERROR is above it ahead of going beyond 9, by every PACE.
        due("6 by 3, LIMIT 6", at(6, "d0;d0;l6;r60;").catches(3), 1);
        due("5 by 3, LIMIT 6", at(5, "d0;d0;l6;r60;").catches(3), 1);
        due("-6 by -2, LIMIT 6", at(-6, "d0;d0;l6;r60;").catches(-2), 1);
        due("9 by 3, LIMIT 6", at(9, "d0;d0;l6;r60;").catches(3), 0);
    }
}
