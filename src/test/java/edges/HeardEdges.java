/** Promises 19 to 23, "what it was truly": the edges that the document names, one by one. */
final class HeardEdges extends Edges {
    private static final int ALL = 524287;

    /** A new object that heard these: a day, an ERROR and w of each. */
    private static TowerPrisoner heard(int... triples) {
        TowerPrisoner x = new TowerPrisoner();
        for (int i = 0; i < triples.length; i += 3) {
            due("hears", x.hears(triples[i], triples[i + 1], triples[i + 2]), i / 3 + 1);
        }
        return x;
    }

    /** ERRORS as bits: ERROR and 9. */
    private static int from(int low, int high) {
        int bits = 0;
        for (int e = low; e <= high; e++) {
            bits |= 1 << (e + 9);
        }
        return bits;
    }

    // ---- hears

    @Says("HEARD (6 at most): behind a day (0 .. 13)")
    static void promise19_aDayIs0To13() {
        refused("hears(-1, 0, 0)", Edges::rich, x -> x.hears(-1, 0, 0), BAD);
        int[] days = {0, 1, 12, 13};
        for (int day : days) {
            TowerPrisoner x = heard(day, 0, 0);
            due("could(" + day + ")", x.could(day), 512);
        }
        refused("hears(14, 0, 0)", Edges::rich, x -> x.hears(14, 0, 0), BAD);
        for (int n : WILD) {
            refused("hears(" + n + ", 0, 0)", Edges::rich, x -> x.hears(n, 0, 0), BAD);
        }
        // DAYS that are told are nothing to it.
        TowerPrisoner x = Check.told("d0;");
        due("hears(13, 0, 0) of one DAY", x.hears(13, 0, 0), 1);
    }

    @Says("ERROR was e (-9 .. 9),")
    static void promise19_anErrorIsMinus9To9() {
        refused("hears(5, -10, 0)", Edges::rich, x -> x.hears(5, -10, 0), BAD);
        due("-9", heard(5, -9, 0).could(5), 1);
        due("-8", heard(5, -8, 0).could(5), 2);
        due("0", heard(5, 0, 0).could(5), 512);
        due("8", heard(5, 8, 0).could(5), 131072);
        due("9", heard(5, 9, 0).could(5), 262144);
        refused("hears(5, 10, 0)", Edges::rich, x -> x.hears(5, 10, 0), BAD);
        refused("hears(5, 10, 3)", Edges::rich, x -> x.hears(5, 10, 3), BAD);
        for (int n : WILD) {
            refused("hears(5, " + n + ", 3)", Edges::rich, x -> x.hears(5, n, 3), BAD);
        }
    }

    @Says("by w (0 .. 3) more or less at most;")
    static void promise19_wIs0To3() {
        refused("hears(5, 0, -1)", Edges::rich, x -> x.hears(5, 0, -1), BAD);
        due("0", heard(5, 0, 0).could(5), 0b1 << 9);
        due("1", heard(5, 0, 1).could(5), 0b111 << 8);
        due("2", heard(5, 0, 2).could(5), 0b11111 << 7);
        due("3", heard(5, 0, 3).could(5), 0b1111111 << 6);
        refused("hears(5, 0, 4)", Edges::rich, x -> x.hears(5, 0, 4), BAD);
        for (int n : WILD) {
            refused("hears(5, 0, " + n + ")", Edges::rich, x -> x.hears(5, 0, n), BAD);
        }
        due("3 below 9", heard(5, 9, 3).could(5), 0b1111 << 15);
        due("3 above -9", heard(5, -9, 3).could(5), 0b1111);
        due("3 about 6", heard(5, 6, 3).could(5), 0b1111111 << 12);
        due("3 about 7", heard(5, 7, 3).could(5), 0b111111 << 13);
    }

    @Says({"HEARD (6 at most): behind a day (0 .. 13)",
        "`int hears(int day, int error, int w)`: HEARD: how much there is. BAD; FULL."})
    static void promise19_sixAtMost() {
        TowerPrisoner x = new TowerPrisoner();
        for (int n = 1; n <= 6; n++) {
            due("hears, " + n, x.hears(n, 0, 3), n);
            due("count(5)", x.count(5), n);
        }
        refused("a seventh", HeardEdges::six, y -> y.hears(0, 0, 0), FULL);
        refused("a seventh that is alike", HeardEdges::six, y -> y.hears(1, 0, 3), FULL);
        due("forget()", x.forget(), 6);
        due("one behind that", x.hears(0, 0, 0), 1);
    }

    private static TowerPrisoner six() {
        return heard(1, 0, 3, 2, 0, 3, 3, 0, 3, 4, 0, 3, 5, 0, 3, 6, 0, 3);
    }

    @Says(REFUSED)
    static void promise19_badComesAheadOfFull() {
        refused("day -1", HeardEdges::six, x -> x.hears(-1, 0, 0), BAD);
        refused("day 14", HeardEdges::six, x -> x.hears(14, 0, 0), BAD);
        refused("error -10", HeardEdges::six, x -> x.hears(0, -10, 0), BAD);
        refused("error 10", HeardEdges::six, x -> x.hears(0, 10, 0), BAD);
        refused("w -1", HeardEdges::six, x -> x.hears(0, 0, -1), BAD);
        refused("w 4", HeardEdges::six, x -> x.hears(0, 0, 4), BAD);
        refused("all are as told", HeardEdges::six, x -> x.hears(13, 9, 3), FULL);
    }

    @Says("of a clock that began with ERROR 0 and nobody CHECKED or CORRECTED.")
    static void promise19_nowIsNothingToIt() {
        TowerPrisoner x = at(9, "d10;d10;r60;l0;");
        x.winds(-2, 0);
        due("FOUND", x.now(5), 1);
        due("could(0)", x.could(0), 8064);
        due("ways()", x.ways(), 683903);
        due("hears(0, 4, 0)", x.hears(0, 4, 0), 1);
        due("4 behind a day is beyond what it can be", x.could(0), 0);
    }

    // ---- forget

    @Says("`int forget()`: Nothing was HEARD: how much there was.")
    static void promise20_forgetOfNoneOneAndSix() {
        TowerPrisoner x = new TowerPrisoner();
        due("forget() of none", x.forget(), 0);
        x.hears(4, 9, 0);
        due("forget() of one", x.forget(), 1);
        due("forget() again", x.forget(), 0);
        due("could(4)", x.could(4), ALL);
        x = six();
        due("forget() of six", x.forget(), 6);
        due("count(5)", x.count(5), 0);
        same("forgotten", x, new TowerPrisoner());
        x = rich();
        due("forget() of two", x.forget(), 2);
        due("count(5)", x.count(5), 0);
        x.hears(2, 1, 1);
        x.hears(5, -2, 0);
        same("heard once more", x, rich());
    }

    // ---- could

    @Says("`int could(int day)`: COULD, as bits. BAD.")
    static void promise21_aDayIs0To13() {
        refused("could(-1)", Edges::rich, x -> x.could(-1), BAD);
        TowerPrisoner x = new TowerPrisoner();
        due("could(0)", x.could(0), 8064);
        due("could(1)", x.could(1), 65504);
        due("could(12)", x.could(12), 524287);
        due("could(13)", x.could(13), 524287);
        refused("could(14)", Edges::rich, y -> y.could(14), BAD);
        for (int n : WILD) {
            refused("could(" + n + ")", Edges::rich, y -> y.could(n), BAD);
        }
    }

    @Says("COULD behind a day: ERRORS (bits 0 .. 18: ERROR and 9) that it can have had then,")
    static void promise21_bits0To18() {
        TowerPrisoner x = new TowerPrisoner();
        due("-2 .. 3", x.could(0), from(-2, 3));
        due("-4 .. 6", x.could(1), from(-4, 6));
        due("-6 .. 9", x.could(2), from(-6, 9));
        due("-8 .. 9", x.could(3), from(-8, 9));
        due("-9 .. 9", x.could(4), 524287);
        due("bit 0", heard(4, -9, 0).could(4), 1);
        due("bit 1", heard(3, -8, 0).could(3), 2);
        due("bit 17", heard(2, 8, 0).could(2), 131072);
        due("bit 18", heard(2, 9, 0).could(2), 262144);
    }

    @Says("COULD behind a day: ERRORS (bits 0 .. 18: ERROR and 9) that it can have had then,")
    static void promise21_whatItCanHaveHad() {
        due("-2 behind a day", heard(0, -2, 0).could(0), from(-2, -2));
        due("-3 behind a day", heard(0, -3, 0).could(0), 0);
        due("3 behind a day", heard(0, 3, 0).could(0), from(3, 3));
        due("4 behind a day", heard(0, 4, 0).could(0), 0);
        due("4 or less behind a day", heard(0, 4, 1).could(0), from(3, 3));
        due("6 behind two", heard(1, 6, 0).could(1), from(6, 6));
        due("7 behind two", heard(1, 7, 0).could(1), 0);
        due("-8 behind four", heard(3, -8, 0).could(3), from(-8, -8));
        due("-9 behind four", heard(3, -9, 0).could(3), 0);
        due("-9 behind five", heard(4, -9, 0).could(4), from(-9, -9));
    }

    @Says({"so that all that was HEARD is so,", "by PACES of all days 0 .. 13."})
    static void promise21_whatWasHeardOfOtherDays() {
        TowerPrisoner x = heard(13, 9, 0);
        due("a day ahead of it", x.could(12), from(6, 9));
        due("two days ahead", x.could(11), from(3, 9));
        due("six days ahead", x.could(7), from(-9, 9));
        x = heard(0, 3, 0);
        due("a day behind it", x.could(1), from(1, 6));
        due("two days behind", x.could(2), from(-1, 9));
        x = heard(4, -9, 0);
        due("the day ahead of -9", x.could(3), from(-8, -7));
        due("the day behind -9", x.could(5), from(-9, -6));
        x = heard(2, 9, 0);
        due("the day ahead of 9", x.could(1), from(6, 6));
        due("the day behind 9", x.could(3), from(7, 9));
        x = heard(3, 0, 1, 5, 0, 0, 3, 2, 1);
        due("both of the same day", x.could(3), from(1, 1));
        due("between them", x.could(4), from(-1, 2));
        x = heard(3, 0, 1, 3, 3, 1);
        due("that can't be together", x.could(3), 0);
        due("nor on another day", x.could(13), 0);
        x = heard(12, -9, 0, 13, -5, 0);
        due("4 more in a day", x.could(0), 0);
        x = heard(12, -9, 0, 13, -6, 0);
        due("3 more in a day", x.could(0), from(-2, 3));
        x = heard(12, 9, 0, 13, 6, 0);
        due("3 less in a day", x.could(13), 0);
        x = heard(12, 9, 0, 13, 7, 0);
        due("2 less in a day", x.could(13), from(7, 7));
    }

    // ---- ways

    @Says("WAYS: how many rows of 14 PACES there are, modulo 1000003, "
            + "by which all that was HEARD is so.")
    static void promise22_moduloAMillionAndThree() {
        due("0 ways", heard(0, 4, 0).ways(), 0);
        due("1 way", heard(2, 9, 0, 11, -9, 0, 13, -3, 0).ways(), 1);
        due("1000000 ways", heard(11, -2, 1, 11, -4, 2, 13, 4, 0, 3, -2, 0, 7, -2, 0, 4, -3, 2)
                .ways(), 1000000);
        due("1000008 ways", heard(1, -3, 1, 10, 0, 1, 8, 4, 0, 6, -3, 2, 5, 2, 1, 6, 1, 2)
                .ways(), 5);
        due("7000020 ways", heard(10, 3, 0, 13, 1, 0, 5, -4, 2, 3, -3, 2, 1, -1, 0).ways(),
                1000002);
        TowerPrisoner x = heard(11, -3, 1, 13, 3, 2, 12, 0, 2, 3, 0, 1);
        due("388001164 ways", x.ways(), 0);
        due("though there are some", x.could(13), from(1, 4));
        due("3000010 ways", heard(11, -3, 0, 8, 0, 0, 11, -3, 2, 10, -2, 2, 1, 2, 2, 13, 3, 0)
                .ways(), 1);
    }

    @Says("`int ways()`: WAYS.")
    static void promise22_rowsOf14PacesWhateverTheDays() {
        due("no DAYS", new TowerPrisoner().ways(), 683903);
        due("one DAY", Check.told("d0;").ways(), 683903);
        due("14 DAYS", Check.told(times(14, "d0;")).ways(), 683903);
        // From -3 behind day 13 alone, and from it behind day 12: six PACES are free then.
        due("behind day 13", heard(2, 9, 0, 11, -9, 0, 13, -3, 0).ways(), 1);
        due("behind day 12", heard(2, 9, 0, 11, -9, 0, 12, -6, 0).ways(), 6);
        // 10 rows of nine -2 and a 0, 45 of eight -2 and two -1, then no PACE below 0.
        due("-9 behind day 12", heard(2, 9, 0, 12, -9, 0, 12, -9, 3).ways(), 220);
    }

    // ---- ask

    @Says("ASK: the day behind which most ERRORS COULD be, of several the first; "
            + "NONE (none COULD be).")
    static void promise23_ofSeveralTheFirst() {
        due("nothing HEARD: 19 from day 4 on", new TowerPrisoner().ask(), 4);
        due("18 on day 3, 19 behind it", heard(0, 0, 3).ask(), 4);
        due("one on each day", heard(2, 9, 0, 11, -9, 0, 13, -3, 0).ask(), 0);
        TowerPrisoner x = heard(1, 0, 0, 3, 0, 0, 5, 0, 0, 7, 0, 0, 9, 0, 0, 11, 0, 0);
        due("5 on day 0", x.could(0), from(-2, 2));
        due("6 on day 12", x.could(12), from(-2, 3));
        due("11 on day 13", x.could(13), from(-4, 6));
        due("the last", x.ask(), 13);
    }

    @Says({"ASK: the day behind which most ERRORS COULD be, of several the first; "
            + "NONE (none COULD be).", "`int ask()`: ASK; NONE."})
    static void promise23_noneCouldBe() {
        due("4 behind a day", heard(0, 4, 0).ask(), NONE);
        due("3 behind a day", heard(0, 3, 0).ask() >= 0 ? 1 : 0, 1);
        due("that can't be together", heard(13, 0, 0, 13, 1, 0).ask(), NONE);
        due("that can", heard(13, 0, 1, 13, 2, 1).ask(), 4);
        TowerPrisoner x = heard(0, 4, 0);
        x.forget();
        due("forgotten", x.ask(), 4);
    }

    @Says("`int ask()`: ASK; NONE.")
    static void allPromises_from21To23AreAskedWithoutAChange() {
        TowerPrisoner x = rich();
        for (int day = -1; day <= 14; day++) {
            x.could(day);
        }
        x.ways();
        x.ask();
        same("asked", x, rich());
    }
}
