/** Promises 1 to 7, "the sentence": the edges that the document names, sentence by sentence. */
final class SentenceEdges extends Edges {
    // ---- a new object

    @Says("`TowerPrisoner()`: As told; no DAYS.")
    static void promise01_noDaysAndAllAsToldAtFirst() {
        TowerPrisoner x = new TowerPrisoner();
        counts(x, 0, 0, 0, 2, 3, 0, 0, 0);
        nows(x, 0, 20, 0, 0, 0, 0, 1, 0);
        due("sun(0)", x.sun(0), BAD);
        due("undo()", x.undo(), STATE);
        due("back(0)", x.back(0), STATE);
        due("back(1)", x.back(1), STATE);
        due("trace()", x.trace(), 0);
    }

    @Says("## The public face")
    static void promise01_theConstants() {
        due("BAD", TowerPrisoner.BAD, -1);
        due("STATE", TowerPrisoner.STATE, -2);
        due("FULL", TowerPrisoner.FULL, -3);
        due("NONE", TowerPrisoner.NONE, -9);
    }

    @Says("The constants: `NO = -1000000`: What none is, where a number may be below 0.")
    static void promise01_noIsFarBelowZero() {
        due("NO", TowerPrisoner.NO, -1000000);
    }

    @Says("An object is used for at most 512 calls after it has been made; "
            + "what later calls answer is free.")
    static void allPromises_the512thCallStillAnswers() {
        for (int last = 511; last <= 512; last++) {
            TowerPrisoner x = new TowerPrisoner();
            for (int call = 1; call < last; call++) {
                due("keep(1) as call " + call, x.keep(1), 0);
            }
            due("now(1) as call " + last, x.now(1), 20);
        }
        TowerPrisoner x = new TowerPrisoner();
        int typed = 0;
        for (int call = 1; call <= 512; call++) {
            typed = x.type(32);
        }
        due("type(32) as call 512", typed, FULL);
        // The 513th may answer what it likes, but it ends, and nothing is thrown.
        x.type(32);
    }

    // ---- type and clear

    @Says("`int type(int c)`: A byte (0 .. 255) comes to THE TEXT: how many it has. BAD; FULL.")
    static void promise02_aByteIs0To255() {
        refused("type(-1)", TowerPrisoner::new, x -> x.type(-1), BAD);
        refused("type(-1) behind others", Edges::rich, x -> x.type(-1), BAD);
        TowerPrisoner x = new TowerPrisoner();
        due("type(0)", x.type(0), 1);
        due("type(1)", x.type(1), 2);
        due("type(254)", x.type(254), 3);
        due("type(255)", x.type(255), 4);
        refused("type(256)", TowerPrisoner::new, y -> y.type(256), BAD);
        refused("type(256) behind others", Edges::rich, y -> y.type(256), BAD);
        for (int n : WILD) {
            refused("type(" + n + ")", Edges::rich, y -> y.type(n), BAD);
        }
        // A number is not cut to a byte: 'd' and 256 more is no 'd'.
        refused("type(356)", Edges::rich, y -> y.type(356), BAD);
    }

    @Says("They are a text (150 bytes at most), read byte by byte,")
    static void promise02_theTextHas150BytesAtMost() {
        TowerPrisoner x = typed(times(148, " "));
        due("the 149th", x.type(32), 149);
        due("the 150th", x.type(32), 150);
        refused("the 151st", () -> typed(times(150, " ")), y -> y.type(32), FULL);
        due("the 151st", x.type(32), FULL);
        due("count(7)", x.count(7), 150);
        due("clear()", x.clear(), 150);
        due("the first behind clear()", x.type(32), 1);
    }

    @Says("They are a text (150 bytes at most), read byte by byte,")
    static void promise02_aFullTextIsReadToItsLastByte() {
        TowerPrisoner x = typed(times(147, " ") + "d7;");
        due("a byte more", x.type('d'), FULL);
        due("sentence()", x.sentence(), 1);
        due("sun(0)", x.sun(0), 7);
        due("a byte behind that", x.type('d'), 1);
        x = typed(times(146, " ") + "d7;");
        due("sentence() of 149", x.sentence(), 1);
        x = typed(times(148, " ") + "d7;");
        due("sentence() without the 151st", x.sentence(), -160);
        due("clear()", x.clear(), 150);
    }

    @Says(REFUSED)
    static void promise02_badComesAheadOfFull() {
        refused("type(-1)", () -> typed(times(150, "d")), x -> x.type(-1), BAD);
        refused("type(0)", () -> typed(times(150, "d")), x -> x.type(0), FULL);
        refused("type(255)", () -> typed(times(150, "d")), x -> x.type(255), FULL);
        refused("type(256)", () -> typed(times(150, "d")), x -> x.type(256), BAD);
    }

    @Says("`int clear()`: THE TEXT is empty: how many bytes it had.")
    static void promise03_clearOfNoneOneAndAll() {
        TowerPrisoner x = new TowerPrisoner();
        due("clear() of none", x.clear(), 0);
        x.type('d');
        due("clear() of one", x.clear(), 1);
        due("clear() again", x.clear(), 0);
        for (int n = 149; n <= 151; n++) {
            Check.typed(x, times(n - 1, " "));
            x.type('x');
            due("clear() of " + n, x.clear(), Math.min(150, n));
        }
        due("count(7)", x.count(7), 0);
        due("what was cleared is not read", Check.typed(x, "d7;").sentence(), 1);
    }

    @Says("`int clear()`: THE TEXT is empty: how many bytes it had.")
    static void promise03_clearChangesNothingElse() {
        TowerPrisoner x = rich();
        due("clear()", x.clear(), 8);
        nows(x, 2, 32, -3, 24, 5, 1, 0, 0);
        counts(x, 4, 3, 2, 2, 4, 2, 4, 0);
        same("typed again", Check.typed(x, "d7;h9 1;"), rich());
    }

    // ---- sentence: how many there may be

    @Says({"`int sentence()`: THE TEXT tells all, and is empty then: how many ITEMS. ",
        "DAYS 0 .. as many as are told (14 at most):",
        "ended by ; : d S (the next day) ;"})
    static void promise04_daysAre14AtMost() {
        for (int days = 0; days <= 14; days++) {
            TowerPrisoner x = reads(times(days, "d4;"), days);
            due("count(0)", x.count(0), days);
            due("now(6)", x.now(6), days == 0 ? 1 : 0);
            due("sun of the last", x.sun(days - 1), days == 0 ? BAD : 4);
            due("sun behind the last", x.sun(days), BAD);
        }
        faultAt(42, times(15, "d4;"));
    }

    @Says({"BRIBES 0 .. (6 at most):", "b D S P C (a bribe) ;"})
    static void promise04_bribesAre6AtMost() {
        for (int bribes = 0; bribes <= 6; bribes++) {
            TowerPrisoner x = reads(times(bribes, "b1 1 4 9;"), bribes);
            due("count(1)", x.count(1), bribes);
            due("the last", x.bribe(bribes - 1, 3), bribes == 0 ? NO : 9);
            due("behind the last", x.bribe(bribes, 3), NO);
        }
        faultAt(54, times(7, "b1 1 4 9;"));
    }

    @Says({"TRADES 0 .. (4 at most):", "h W S (a trade) ;"})
    static void promise04_tradesAre4AtMost() {
        for (int trades = 0; trades <= 4; trades++) {
            TowerPrisoner x = reads(times(trades, "h7 1;"), trades);
            due("count(2)", x.count(2), trades);
            due("the last", x.trade(trades - 1, 0), trades == 0 ? BAD : 7);
            due("behind the last", x.trade(trades, 0), BAD);
        }
        faultAt(20, times(5, "h7 1;"));
    }

    @Says("`int sentence()`: THE TEXT tells all, and is empty then: how many ITEMS. ")
    static void promise04_itemsOfNoneOneAndAll() {
        reads("", 0);
        reads(" ", 0);
        reads(times(150, " "), 0);
        reads("a0;", 1);
        String all = times(14, "d0;") + times(6, "b0 0 0 1;") + times(4, "h1 0;") + "r1;l0;a0;";
        TowerPrisoner x = reads(all, 27);
        counts(x, 14, 6, 4, 0, 0, 0, 0, 0);
        faultAt(125, all + "d0;");
        faultAt(125, all + "b0 0 0 1;");
        faultAt(125, all + "h1 0;");
        faultAt(125, all + "r1;");
        faultAt(125, all + "l0;");
        faultAt(125, all + "a0;");
    }

    // ---- sentence: what the numbers may be

    @Says("SUN (0 .. 10 of 10).")
    static void promise04_sunIs0To10() {
        for (int sun : new int[] {0, 1, 9, 10}) {
            due("sun(0)", reads("d" + sun + ";", 1).sun(0), sun);
        }
        faultAt(1, "d11;");
        faultAt(1, "d12;");
        faultAt(1, "d-1;");
        faultAt(1, "d99;");
        due("the next day's is its own", reads("d0;d10;", 2).sun(1), 10);
        faultAt(4, "d0;d11;");
    }

    @Says("REST (1 .. 60; 20 at first): what the hands must show yet.")
    static void promise04_restIs1To60() {
        faultAt(1, "r0;");
        for (int rest : new int[] {1, 2, 59, 60}) {
            due("now(1)", reads("r" + rest + ";", 1).now(1), rest);
        }
        faultAt(1, "r61;");
        faultAt(1, "r62;");
        faultAt(1, "r99;");
    }

    @Says("LIMIT (0 .. 6; 2 at first),")
    static void promise04_limitIs0To6() {
        for (int limit : new int[] {0, 1, 5, 6}) {
            due("count(3)", reads("l" + limit + ";", 1).count(3), limit);
        }
        faultAt(1, "l7;");
        faultAt(1, "l8;");
        faultAt(1, "l-1;");
    }

    @Says("ADDED (0 .. 9; 3 at first).")
    static void promise04_addedIs0To9() {
        for (int added : new int[] {0, 1, 8, 9}) {
            due("count(4)", reads("a" + added + ";", 1).count(4), added);
        }
        faultAt(1, "a10;");
        faultAt(1, "a11;");
        faultAt(1, "a-1;");
    }

    @Says("DAY (0 .. 13),")
    static void promise04_theDayOfABribeIs0To13() {
        for (int day : new int[] {0, 1, 12, 13}) {
            due("bribe(0, 0)", reads("b" + day + " 0 0 1;", 1).bribe(0, 0), day);
        }
        faultAt(1, "b14 0 0 1;");
        faultAt(1, "b15 0 0 1;");
        faultAt(1, "b-1 0 0 1;");
    }

    @Says("SIDE (0: PACE at most, 1: at least),")
    static void promise04_theSideOfABribeIs0Or1() {
        due("bribe(0, 1)", reads("b0 0 0 1;", 1).bribe(0, 1), 0);
        due("bribe(0, 1)", reads("b0 1 0 1;", 1).bribe(0, 1), 1);
        faultAt(3, "b0 2 0 1;");
        faultAt(3, "b0 3 0 1;");
        faultAt(3, "b0 -1 0 1;");
    }

    @Says("PACE (-2 .. 3; told as PACE and 2: 0 .. 5),")
    static void promise04_thePaceOfABribeIsToldAs0To5() {
        int[][] toldAs = {{0, -2}, {1, -1}, {2, 0}, {3, 1}, {4, 2}, {5, 3}};
        for (int[] pace : toldAs) {
            due("bribe(0, 2)", reads("b0 0 " + pace[0] + " 1;", 1).bribe(0, 2), pace[1]);
        }
        faultAt(5, "b0 0 6 1;");
        faultAt(5, "b0 0 7 1;");
        faultAt(5, "b0 0 -1 1;");
    }

    @Says("CANDLES (1 .. 20).")
    static void promise04_theCandlesOfABribeAre1To20() {
        faultAt(7, "b0 0 0 0;");
        for (int candles : new int[] {1, 2, 19, 20}) {
            due("bribe(0, 3)", reads("b0 0 0 " + candles + ";", 1).bribe(0, 3), candles);
        }
        faultAt(7, "b0 0 0 21;");
        faultAt(7, "b0 0 0 22;");
    }

    @Says("WEIGHT (1 .. 9),")
    static void promise04_theWeightOfATradeIs1To9() {
        faultAt(1, "h0 0;");
        for (int weight : new int[] {1, 2, 8, 9}) {
            due("trade(0, 0)", reads("h" + weight + " 0;", 1).trade(0, 0), weight);
        }
        faultAt(1, "h10 0;");
        faultAt(1, "h11 0;");
    }

    @Says("SIDE (0: harmed by a slow clock, 1: by a quick one).")
    static void promise04_theSideOfATradeIs0Or1() {
        due("trade(0, 1)", reads("h1 0;", 1).trade(0, 1), 0);
        due("trade(0, 1)", reads("h1 1;", 1).trade(0, 1), 1);
        faultAt(3, "h1 2;");
        faultAt(3, "h1 3;");
        faultAt(3, "h1 -1;");
    }

    // ---- sentence: tokens and faults

    @Says("blanks (32) between TOKENS;")
    static void promise04_blanksBetweenTokens() {
        reads("d5;", 1);
        reads(" d 5 ; ", 1);
        reads("  d  5  ;  r  7  ;  ", 2);
        due("no blank is asked between letters and a number", reads("b0 1 5 9;", 1).bribe(0, 3), 9);
        faultAt(3, "d1;0;");
        faultAt(3, "d1 0;");
        faultAt(5, "r60; 0;");
    }

    @Says("blanks (32) between TOKENS;")
    static void promise04_aBlankIs32NeitherLessNorMore() {
        faultAt(1, "d" + (char) 31 + "5;");
        reads("d" + (char) 32 + "5;", 1);
        faultAt(1, "d" + (char) 33 + "5;");
        faultAt(0, (char) 9 + "d5;");
        faultAt(3, "d5;" + (char) 10);
        faultAt(3, "d5;" + (char) 0);
        faultAt(3, "d5;" + (char) 160);
    }

    @Says("ITEMS, each letters and what is told,")
    static void promise04_whatIsToldIsNeitherMoreNorLess() {
        faultAt(1, "d;");
        faultAt(3, "d1 1;");
        faultAt(6, "b0 0 0;");
        faultAt(9, "b0 0 0 1 1;");
        faultAt(2, "h1;");
        faultAt(5, "h1 0 0;");
        faultAt(1, "r;");
        faultAt(3, "r1 1;");
        faultAt(1, "l;");
        faultAt(3, "l1 1;");
        faultAt(1, "a;");
        faultAt(3, "a1 1;");
    }

    @Says("ended by ; :")
    static void promise04_itemsEndBySemicolonAlone() {
        // 58 and 60 stand beside ; (59).
        faultAt(2, "d1:");
        reads("d1;", 1);
        faultAt(2, "d1<");
        faultAt(2, "d1d1;");
        faultAt(3, "d1;;");
        faultAt(0, ";");
        faultAt(2, "d1");
    }

    @Says("r N (rest), l N (limit), a N (added; once at most each).")
    static void promise04_restLimitAndAddedOnceAtMost() {
        for (String letter : new String[] {"r", "l", "a"}) {
            reads("d1;", 1);
            reads(letter + "1;", 1);
            faultAt(3, letter + "1;" + letter + "1;");
            faultAt(6, letter + "1;d1;" + letter + "99;");
            faultAt(3, letter + "1;" + letter);
        }
        TowerPrisoner x = reads("a1;l1;r1;", 3);
        due("once more in the next text", Check.typed(x, "r2;l2;a2;").sentence(), 3);
        counts(x, 0, 0, 0, 2, 2);
    }

    @Says("r N (rest), l N (limit), a N (added; once at most each).")
    static void promise04_onceIsCountedAnewBehindAFault() {
        TowerPrisoner x = typed("r5;l5;a5;x");
        due("sentence()", x.sentence(), -19);
        due("clear()", x.clear(), 10);
        due("sentence() of the same once more", Check.typed(x, "r6;l6;a6;").sentence(), 3);
        due("now(1)", x.now(1), 6);
        counts(x, 0, 0, 0, 6, 6);
    }

    @Says("TOKENS are letters a .. z side by side, NUMBERS and ; .")
    static void promise04_lettersAreAToZ() {
        // 96 and 123 stand beside a (97) and z (122).
        faultAt(1, "d" + (char) 96 + "1;");
        faultAt(0, "da1;");
        faultAt(0, "dz1;");
        faultAt(1, "d" + (char) 123 + "1;");
        reads("a1;", 1);
        faultAt(0, (char) 96 + "1;");
        faultAt(0, "D1;");
        faultAt(1, "dD1;");
    }

    @Says("TOKENS are letters a .. z side by side, NUMBERS and ; .")
    static void promise04_digitsAre0To9() {
        // 47 and 58 stand beside 0 (48) and 9 (57).
        faultAt(2, "d1/;");
        due("now(1)", reads("r10;", 1).now(1), 10);
        due("now(1)", reads("r19;", 1).now(1), 19);
        faultAt(2, "d1:;");
        faultAt(1, "d/;");
        reads("d0;", 1);
        reads("d9;", 1);
        faultAt(1, "d:;");
    }

    @Says("FAULT: the place of the first byte of the first TOKEN that can't stand there "
            + "(letters that begin no ITEM,")
    static void promise04_lettersThatBeginNoItem() {
        for (char c = 'a'; c <= 'z'; c++) {
            if ("dbhrla".indexOf(c) < 0) {
                faultAt(0, c + "1;");
                faultAt(4, "d1; " + c + "1;");
            }
        }
        faultAt(0, "dd1;");
        faultAt(0, "ad1;");
        faultAt(0, "bh0 0 0 1;");
        faultAt(1, "d;d1;");
        faultAt(2, "d d;");
    }

    @Says("FAULT: the place of the first byte of the first TOKEN that can't stand there "
            + "(letters that begin no ITEM,")
    static void promise04_theFirstFaultCounts() {
        faultAt(1, "d11;x;D");
        faultAt(0, "x;d11;");
        faultAt(0, "xD");
        faultAt(2, "d5x;D");
        faultAt(4, "d5; ;;");
        faultAt(1, "b99 9 9 99;");
        faultAt(3, "b9 9 9 99;");
        faultAt(5, "b9 1 9 99;");
        faultAt(7, "b9 1 5 99;");
    }

    @Says("FAULT: the place of the first byte of the first TOKEN that can't stand there "
            + "(letters that begin no ITEM,")
    static void promise04_lettersAreNoNumberAndANumberNoLetters() {
        faultAt(2, "d d;");
        faultAt(2, "d dd;");
        faultAt(2, "d a;");
        faultAt(7, "b0 0 0 zz;");
        faultAt(0, "1;");
        // 97 and 98 are the bytes of a and b.
        faultAt(0, "97 5;");
        faultAt(0, "98 0 0 0 1;");
        faultAt(0, "100 5;");
        faultAt(2, "d ;");
        faultAt(4, "d1; 1;");
    }

    @Says("a fifteenth day, a seventh bribe, a fifth trade, r, l, a again,")
    static void promise04_oneTooManyIsAFaultOfItsLetters() {
        // At the letters already, whatever stands behind them.
        faultAt(42, times(14, "d1;") + "d99;");
        faultAt(42, times(14, "d1;") + "d");
        faultAt(43, times(14, "d1;") + " d1;");
        faultAt(54, times(6, "b0 0 0 1;") + "b0 0 0 0;");
        faultAt(54, times(6, "b0 0 0 1;") + "b");
        faultAt(20, times(4, "h1 0;") + "h0 0;");
        faultAt(20, times(4, "h1 0;") + "h");
        faultAt(3, "r1;r0;");
        faultAt(3, "l1;l7;");
        faultAt(3, "a1;a10;");
        faultAt(4, "a1; a");
        // What is at its most takes nothing from the others.
        reads(times(14, "d1;") + "b0 0 0 1;h1 0;r1;", 17);
        reads(times(6, "b0 0 0 1;") + "d0;h1 0;", 8);
        reads(times(4, "h1 0;") + "d0;b0 0 0 1;", 6);
    }

    @Says("a NUMBER beyond what it may be, too);")
    static void promise04_aNumberBeyondIsAFaultOfItsFirstByte() {
        faultAt(1, "d11;");
        faultAt(2, "d 11;");
        faultAt(4, "r1;d11;");
        faultAt(3, "h9 10;");
        faultAt(7, "b0 0 0 21;");
        faultAt(8, "b13 1 5 21;");
        faultAt(1, "r61");
    }

    @Says("of a byte that begins none,")
    static void promise04_aByteThatBeginsNone() {
        int[] bytes = {0, 1, 31, 33, 47, 58, 60, 64, 65, 90, 91, 96, 123, 127, 128, 254, 255};
        for (int c : bytes) {
            faultAt(0, (char) c + "d1;");
            faultAt(1, "d" + (char) c + "1;");
            faultAt(2, "d1" + (char) c + ";");
            faultAt(3, "d1;" + (char) c);
        }
    }

    @Says("a NUMBER above 99")
    static void promise04_aNumberAbove99() {
        // The TOKEN is all of its digits: it is not 10 and then another 0.
        faultAt(1, "d98;");
        faultAt(1, "d99;");
        faultAt(1, "d100;");
        faultAt(1, "d101;");
        faultAt(0, "99;");
        faultAt(0, "100;");
        faultAt(3, "d1 99;");
        faultAt(3, "d1 100;");
        faultAt(1, "r600;");
        faultAt(1, "r1000000000;");
        // 2 to the power of 32 and 5 more, and of 64 and 5 more.
        faultAt(1, "r4294967301;");
        faultAt(1, "r18446744073709551621;");
        faultAt(1, "d" + times(149, "1"));
        faultAt(1, "d1" + times(148, "0"));
    }

    @Says("or with a 0 ahead of others, that TOKEN's;")
    static void promise04_aNumberWithA0AheadOfOthers() {
        reads("d0;", 1);
        faultAt(1, "d00;");
        faultAt(1, "d01;");
        reads("d1;", 1);
        reads("d10;", 1);
        faultAt(1, "d010;");
        faultAt(7, "b0 0 0 01;");
        faultAt(7, "b0 0 0 020;");
        faultAt(1, "r007;");
        faultAt(0, "00;");
        faultAt(1, "d" + times(149, "0"));
    }

    @Says("the text's length, if it ends too early.")
    static void promise04_aTextThatEndsTooEarly() {
        reads("", 0);
        String text = "b13 1 5 20;";
        for (int length = 1; length < text.length(); length++) {
            faultAt(length, text.substring(0, length));
        }
        reads(text, 1);
        faultAt(2, "d ");
        faultAt(4, "d1  ");
        faultAt(4, "d1;h");
        faultAt(9, "d1; h1 0 ");
        faultAt(149, times(148, " ") + "d");
        faultAt(150, times(149, " ") + "d");
        faultAt(150, "d1" + times(148, " "));
    }

    @Says("-10 less FAULT: nothing changes.")
    static void promise04_aFaultIsToldAsMinus10LessItsPlace() {
        due("a fault at 0", typed("x").sentence(), -10);
        due("a fault at 1", typed(" x").sentence(), -11);
        due("a fault at 148", typed(times(148, " ") + "x ").sentence(), -158);
        due("a fault at 149", typed(times(149, " ") + "x").sentence(), -159);
        due("a fault at 150", typed(times(149, " ") + "d").sentence(), -160);
    }

    @Says("-10 less FAULT: nothing changes.")
    static void promise04_nothingChangesByAFault() {
        refused("sentence() with all told but for one", () -> {
            TowerPrisoner x = rich();
            x.clear();
            return Check.typed(x, "d9;d8;b5 1 1 11;h9 0;r9;l6;a9;D");
        }, TowerPrisoner::sentence, -40);
        TowerPrisoner x = rich();
        x.clear();
        Check.typed(x, "d9;r9;l6;a9;h9 1;b0 0 5 1");
        due("sentence()", x.sentence(), -35);
        due("sentence() again", x.sentence(), -35);
        nows(x, 2, 32, -3, 24, 5, 1, 0, 0);
        counts(x, 4, 3, 2, 2, 4, 2, 4, 25);
        due("what was missing", x.type(';'), 26);
        due("sentence() then", x.sentence(), 6);
        due("now(1)", x.now(1), 9);
        counts(x, 1, 1, 1, 6, 9, 0, 0, 0);
    }

    @Says("(Read anew: as told, DAY 0, nothing HEARD or to be UNDONE, IMAGES are gone.)")
    static void promise04_readAnewAllIsAsTold() {
        TowerPrisoner x = rich();
        due("sentence()", x.sentence(), 2);
        nows(x, 0, 20, 0, 0, 0, 0, 0, 0);
        counts(x, 1, 0, 1, 2, 3, 0, 0, 0);
        due("undo()", x.undo(), STATE);
        due("back(0)", x.back(0), STATE);
        due("back(1)", x.back(1), STATE);
        due("could(2)", x.could(2), 0b1111111111111111 << 3);
        due("ways()", x.ways(), 683903);
        due("bribe(0, 0)", x.bribe(0, 0), NO);
        due("trade(0, 2)", x.trade(0, 2), 0);
        due("trade(1, 0)", x.trade(1, 0), BAD);
        due("sun(1)", x.sun(1), BAD);
        due("the trace goes on", x.trace(), 100001);
    }

    @Says("(Read anew: as told, DAY 0, nothing HEARD or to be UNDONE, IMAGES are gone.)")
    static void promise04_readAnewWhatIsNotToldIsAsAtFirst() {
        TowerPrisoner x = reads("d1;r60;l6;a9;h9 1;b0 0 0 20;", 6);
        due("an empty text", x.sentence(), 0);
        nows(x, 0, 20, 0, 0, 0, 0, 1, 0);
        counts(x, 0, 0, 0, 2, 3, 0, 0, 0);
        TowerPrisoner y = reads("r60;l6;a9;", 3);
        due("the day alone", Check.typed(y, "d1;").sentence(), 1);
        nows(y, 0, 20, 0, 0, 0, 0, 0, 0);
        counts(y, 1, 0, 0, 2, 3, 0, 0, 0);
    }

    @Says("(Read anew: as told, DAY 0, nothing HEARD or to be UNDONE, IMAGES are gone.)")
    static void promise04_readAnewWhatWasToldEarlierIsNothing() {
        String more = "d9;d9;d9;d9;b0 1 0 20;b0 1 0 20;b1 1 0 20;h9 1;h9 1;h9 1;h9 1;";
        TowerPrisoner x = new TowerPrisoner();
        for (int i = 0; i < 3; i++) {
            due("sentence() of more", Check.typed(x, more).sentence(), 11);
            due("sentence() of more again", Check.typed(x, more).sentence(), 11);
            due("sentence() of less", Check.typed(x, "d0;d0;b0 1 0 1;h1 1;").sentence(), 4);
            due("safe(0)", x.safe(0), 1);
            due("winds(1, 0)", x.winds(1, 0), 0);
            nows(x, 1, 15, 1, 1, 1, 0, 0, 0);
            due("pays(1, 1)", x.pays(1, 1), BAD);
            due("mark(0, 1)", x.mark(0, 1), NO);
            due("winds(1, 0)", x.winds(1, 0), 0);
            nows(x, 2, 10, 2, 1, 3, 0, 1, 0);
        }
    }

    // ---- sun, bribe, trade

    @Says("`int sun(int d)`: SUN of a DAY. BAD.")
    static void promise05_aDayIs0ToTheLast() {
        String text = "d3;d4;d5;";
        refused("sun(-1)", () -> Check.told(text), x -> x.sun(-1), BAD);
        TowerPrisoner x = Check.told(text);
        due("sun(0)", x.sun(0), 3);
        due("sun(1)", x.sun(1), 4);
        due("sun(2)", x.sun(2), 5);
        refused("sun(3)", () -> Check.told(text), y -> y.sun(3), BAD);
        refused("sun(4) of four", Edges::rich, y -> y.sun(4), BAD);
        due("sun(0) of none", new TowerPrisoner().sun(0), BAD);
        x = Check.told(times(13, "d1;") + "d2;");
        due("sun(12) of 14", x.sun(12), 1);
        due("sun(13) of 14", x.sun(13), 2);
        due("sun(14) of 14", x.sun(14), BAD);
        for (int n : WILD) {
            due("sun(" + n + ")", x.sun(n), BAD);
        }
        // A text of fewer days: what was told ahead of it is no DAY.
        Check.typed(x, "d7;").sentence();
        due("sun(0) of one", x.sun(0), 7);
        due("sun(1) of one", x.sun(1), BAD);
    }

    @Says("`int bribe(int b, int what)`: Of a BRIBE: 0 DAY, 1 SIDE, 2 PACE, 3 CANDLES. NO: BAD.")
    static void promise06_aBribeIs0ToTheLast() {
        String text = "b13 1 0 20;b0 0 5 1;";
        for (int what = 0; what < 4; what++) {
            int part = what;
            refused("bribe(-1, " + what + ")", () -> Check.told(text), x -> x.bribe(-1, part), NO);
            refused("bribe(2, " + what + ")", () -> Check.told(text), x -> x.bribe(2, part), NO);
        }
        TowerPrisoner x = Check.told(text);
        due("bribe(0, 0)", x.bribe(0, 0), 13);
        due("bribe(1, 3)", x.bribe(1, 3), 1);
        due("bribe(0, 0) of none", new TowerPrisoner().bribe(0, 0), NO);
        x = Check.told(times(5, "b0 0 0 1;") + "b0 0 0 2;");
        due("bribe(4, 3) of 6", x.bribe(4, 3), 1);
        due("bribe(5, 3) of 6", x.bribe(5, 3), 2);
        due("bribe(6, 3) of 6", x.bribe(6, 3), NO);
        for (int n : WILD) {
            due("bribe(" + n + ", 0)", x.bribe(n, 0), NO);
            due("bribe(0, " + n + ")", x.bribe(0, n), NO);
        }
    }

    @Says("`int bribe(int b, int what)`: Of a BRIBE: 0 DAY, 1 SIDE, 2 PACE, 3 CANDLES. NO: BAD.")
    static void promise06_whatIs0To3() {
        String text = "b13 1 0 20;b0 0 5 1;";
        refused("bribe(1, -1)", () -> Check.told(text), x -> x.bribe(1, -1), NO);
        TowerPrisoner x = Check.told(text);
        due("bribe(0, 0)", x.bribe(0, 0), 13);
        due("bribe(0, 1)", x.bribe(0, 1), 1);
        due("bribe(0, 2)", x.bribe(0, 2), -2);
        due("bribe(0, 3)", x.bribe(0, 3), 20);
        due("bribe(1, 0)", x.bribe(1, 0), 0);
        due("bribe(1, 1)", x.bribe(1, 1), 0);
        due("bribe(1, 2)", x.bribe(1, 2), 3);
        due("bribe(1, 3)", x.bribe(1, 3), 1);
        refused("bribe(0, 4)", () -> Check.told(text), y -> y.bribe(0, 4), NO);
        refused("bribe(1, 5)", () -> Check.told(text), y -> y.bribe(1, 5), NO);
    }

    @Says("`int trade(int t, int what)`: Of a TRADE: 0 WEIGHT, 1 SIDE, 2 HARM. BAD.")
    static void promise07_aTradeIs0ToTheLast() {
        for (int what = 0; what < 3; what++) {
            int part = what;
            refused("trade(-1, " + what + ")", Edges::rich, x -> x.trade(-1, part), BAD);
            refused("trade(2, " + what + ")", Edges::rich, x -> x.trade(2, part), BAD);
        }
        TowerPrisoner x = rich();
        due("trade(0, 0)", x.trade(0, 0), 2);
        due("trade(1, 0)", x.trade(1, 0), 3);
        due("trade(0, 0) of none", new TowerPrisoner().trade(0, 0), BAD);
        due("trade(0, 2) of none", new TowerPrisoner().trade(0, 2), BAD);
        x = Check.told("h1 0;h2 0;h3 0;h4 1;");
        due("trade(2, 0) of 4", x.trade(2, 0), 3);
        due("trade(3, 0) of 4", x.trade(3, 0), 4);
        due("trade(4, 0) of 4", x.trade(4, 0), BAD);
        due("trade(4, 2) of 4", x.trade(4, 2), BAD);
        for (int n : WILD) {
            due("trade(" + n + ", 0)", x.trade(n, 0), BAD);
            due("trade(" + n + ", 2)", x.trade(n, 2), BAD);
            due("trade(0, " + n + ")", x.trade(0, n), BAD);
        }
    }

    @Says("`int trade(int t, int what)`: Of a TRADE: 0 WEIGHT, 1 SIDE, 2 HARM. BAD.")
    static void promise07_whatIs0To2() {
        refused("trade(0, -1)", Edges::rich, x -> x.trade(0, -1), BAD);
        TowerPrisoner x = rich();
        due("trade(0, 0)", x.trade(0, 0), 2);
        due("trade(0, 1)", x.trade(0, 1), 1);
        due("trade(0, 2)", x.trade(0, 2), 5);
        due("trade(1, 1)", x.trade(1, 1), 0);
        due("trade(1, 2)", x.trade(1, 2), 0);
        refused("trade(0, 3)", Edges::rich, y -> y.trade(0, 3), BAD);
        refused("trade(1, 4)", Edges::rich, y -> y.trade(1, 4), BAD);
    }

    /** A new object reads the text without a fault, and the text is empty then. */
    private static TowerPrisoner reads(String text, int items) {
        TowerPrisoner x = typed(text);
        due("sentence() of \"" + text + "\"", x.sentence(), items);
        due("count(7) behind it", x.count(7), 0);
        return x;
    }

    /** The text has its fault there, and what was told and done ahead of it is as it was. */
    private static void faultAt(int place, String text) {
        refused("sentence() of \"" + text + "\"", () -> {
            TowerPrisoner x = rich();
            x.clear();
            return Check.typed(x, text);
        }, TowerPrisoner::sentence, -10 - place);
        due("sentence() of \"" + text + "\", new", typed(text).sentence(), -10 - place);
    }
}
