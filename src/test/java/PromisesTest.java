/** For each promise of the document: what is ordinary, the edges that it names, wrong numbers. */
public final class PromisesTest {
    private static final int BAD = -1, STATE = -2, FULL = -3, NONE = -9, NO = -1000000;

    private static void due(String call, long got, long want) {
        Check.due(call, got, want);
    }

    private static TowerPrisoner told(String text) {
        return Check.told(text);
    }

    private static void repeat(TowerPrisoner x, int times, int pace) {
        for (int i = 0; i < times; i++) {
            due("turn " + i + " by " + pace, x.winds(pace, 0) < 0 ? 1 : 0, 0);
        }
    }

    private static void nows(String when, TowerPrisoner x, int... wants) {
        for (int what = 0; what < wants.length; what++) {
            due(when + ": now(" + what + ")", x.now(what), wants[what]);
        }
    }

    private static void counts(String when, TowerPrisoner x, int... wants) {
        for (int what = 0; what < wants.length; what++) {
            due(when + ": count(" + what + ")", x.count(what), wants[what]);
        }
    }

    private static void newObject() {
        TowerPrisoner x = new TowerPrisoner();
        nows("new", x, 0, 20, 0, 0, 0, 0, 1, 0);
        counts("new", x, 0, 0, 0, 2, 3, 0, 0, 0);
        due("trace()", x.trace(), 0);
        due("undo()", x.undo(), STATE);
        due("back(0)", x.back(0), STATE);
        due("back(1)", x.back(1), STATE);
        due("sun(0)", x.sun(0), BAD);
        due("bribe(0, 0)", x.bribe(0, 0), NO);
        due("trade(0, 0)", x.trade(0, 0), BAD);
        due("BAD", TowerPrisoner.BAD, BAD);
        due("STATE", TowerPrisoner.STATE, STATE);
        due("FULL", TowerPrisoner.FULL, FULL);
        due("NONE", TowerPrisoner.NONE, NONE);
        due("NO", TowerPrisoner.NO, NO);
    }

    private static void typing() {
        TowerPrisoner x = new TowerPrisoner();
        due("type(-1)", x.type(-1), BAD);
        due("type(256)", x.type(256), BAD);
        due("type(0)", x.type(0), 1);
        due("type(255)", x.type(255), 2);
        for (int i = 3; i <= 150; i++) {
            due("type(32)", x.type(32), i);
        }
        due("type(32) of 150", x.type(32), FULL);
        due("type(256) of 150", x.type(256), BAD);
        due("type(-1) of 150", x.type(-1), BAD);
        due("count(7)", x.count(7), 150);
        due("clear()", x.clear(), 150);
        due("clear() again", x.clear(), 0);
        due("count(7) of none", x.count(7), 0);
        due("type(32) behind clear", x.type(32), 1);
    }

    private static void reads(String text, int want) {
        TowerPrisoner x = Check.typed(new TowerPrisoner(), text);
        due("sentence() of \"" + text + "\"", x.sentence(), want);
        due("bytes left of \"" + text + "\"", x.count(7), want < 0 ? text.length() : 0);
    }

    private static void texts() {
        reads("", 0);
        reads("   ", 0);
        reads("d0;", 1);
        reads(" d 10 ; ", 1);
        reads("d10;d0;", 2);
        reads("b0 0 0 1;b13 1 5 20;", 2);
        reads("h1 0;h9 1;", 2);
        reads("r1;l0;a0;", 3);
        reads("r60;l6;a9;", 3);
        reads("a9;b 0 0 0 1 ;l6;h1 0;r60;d0;", 6);
        reads("d1;d1;d1;d1;d1;d1;d1;d1;d1;d1;d1;d1;d1;d1;", 14);
        reads("b0 0 0 1;b0 0 0 1;b0 0 0 1;b0 0 0 1;b0 0 0 1;b0 0 0 1;", 6);
        reads("h1 0;h1 0;h1 0;h1 0;", 4);
    }

    private static void faultsOfItems() {
        reads("x1;", -10);
        reads("d1; e1;", -14);
        reads("dd1;", -10);
        reads("bd0 0 0 1;", -10);
        reads("1;", -10);
        reads(";", -10);
        reads("d1;;", -13);
        reads("d1;d1;d1;d1;d1;d1;d1;d1;d1;d1;d1;d1;d1;d1;d1;", -52);
        reads("b0 0 0 1;b0 0 0 1;b0 0 0 1;b0 0 0 1;b0 0 0 1;b0 0 0 1;b0 0 0 1;", -64);
        reads("h1 0;h1 0;h1 0;h1 0; h1 0;", -31);
        reads("r1;r1;", -13);
        reads("l1; l1;", -14);
        reads("a1;d0;a1;", -16);
        reads("rr1;", -10);
        reads("dz1;", -10);
        reads("zd1;", -10);
        reads("d1z;", -12);
    }

    private static void faultsOfNumbers() {
        reads("d11;", -11);
        reads("d 11;", -12);
        reads("b14 0 0 1;", -11);
        reads("b0 2 0 1;", -13);
        reads("b0 0 6 1;", -15);
        reads("b0 0 0 0;", -17);
        reads("b0 0 0 21;", -17);
        reads("h0 0;", -11);
        reads("h10 0;", -11);
        reads("h1 2;", -13);
        reads("r0;", -11);
        reads("r61;", -11);
        reads("l7;", -11);
        reads("a10;", -11);
        reads("d00;", -11);
        reads("d05;", -11);
        reads("b0 0 0 010;", -17);
        reads("r100;", -11);
        reads("r99999999999999999999;", -11);
        reads("r4294967297;", -11);
        reads("d1 1;", -13);
        reads("d;", -11);
        reads("b0 0 0;", -16);
        reads("da;", -10);
        reads("d a;", -12);
        reads("d1d1;", -12);
        reads("h1;", -12);
    }

    private static void faultsOfBytes() {
        reads("D1;", -10);
        reads("dD1;", -11);
        reads("d1.;", -12);
        reads("d1;\t", -13);
        reads("d-1;", -11);
        reads("d" + (char) 200 + "1;", -11);
        reads("d1;" + (char) 0, -13);
        reads("d`;", -11);
        reads("d{;", -11);
        reads("d/;", -11);
        reads("d:;", -11);
        reads("d", -11);
        reads("d ", -12);
        reads("d1", -12);
        reads("d1  ", -14);
        reads("b0 0 0", -16);
        reads("d1;h1 0", -17);
        reads("r", -11);
        reads("xD", -10);
    }

    private static void readAnew() {
        TowerPrisoner x = told("d0;d0;d0;b0 0 5 20;h3 1;h2 1;r50;l1;a4;");
        x.winds(3, 0);
        x.corrects(-1);
        x.keep(0);
        x.keep(1);
        x.hears(3, 0, 1);
        x.mark(1, 1);
        Check.typed(x, "d5;D");
        due("sentence() with a fault", x.sentence(), -13);
        nows("behind a fault", x, 1, 43, 2, 20, 15, 0, 0, 0);
        counts("behind a fault", x, 3, 1, 2, 1, 4, 1, 2, 4);
        due("sun(0)", x.sun(0), 0);
        due("clear()", x.clear(), 4);
        due("back(0)", x.back(0), 1);
        Check.typed(x, "d5;h4 1;");
        due("sentence()", x.sentence(), 2);
        nows("read anew", x, 0, 20, 0, 0, 0, 0, 0, 0);
        counts("read anew", x, 1, 0, 1, 2, 3, 0, 0, 0);
        due("back(0) anew", x.back(0), STATE);
        due("back(1) anew", x.back(1), STATE);
        due("undo() anew", x.undo(), STATE);
        due("could(3) anew", x.could(3), 524286);
        due("trade(0, 2) anew", x.trade(0, 2), 0);
        due("trade(1, 0) anew", x.trade(1, 0), BAD);
        due("bribe(0, 0) anew", x.bribe(0, 0), NO);
        due("sun(1) anew", x.sun(1), BAD);
        due("trace() is not told", x.trace(), 11);
        due("an empty text", x.sentence(), 0);
        nows("none told", x, 0, 20, 0, 0, 0, 0, 1, 0);
        counts("none told", x, 0, 0, 0, 2, 3, 0, 0, 0);
        Check.typed(x, "b1 0 0 2;r7;l0;a1;h1 1;");
        due("told once more", x.sentence(), 5);
        counts("told once more", x, 0, 1, 1, 0, 1, 0, 0, 0);
        due("now(1)", x.now(1), 7);
        due("bribe(0, 3)", x.bribe(0, 3), 2);
        fewerAreTold();
    }

    private static void fewerAreTold() {
        TowerPrisoner x = new TowerPrisoner();
        for (String text : new String[] {"b0 0 5 9;b0 0 5 9;h9 1;h9 1;", "b0 0 5 9;b0 0 5 9;h9 1;h9 1;",
            "d0;d0;b0 0 5 1;h2 1;r14;"}) {
            Check.typed(x, text);
            due("items", x.sentence() > 0 ? 1 : 0, 1);
        }
        due("safe(0) by one bribe", x.safe(0), 1);
        due("least(2, 0) by one trade", x.least(2, 0), 18);
        x.winds(3, 0);
        nows("one bribe, one trade", x, 1, 7, 3, 1, 6, 0, 0, 0);
        due("mark(0, 1)", x.mark(0, 1), NO);
        due("pays(1, 1)", x.pays(1, 1), BAD);
    }

    private static void parts() {
        TowerPrisoner x = told("d0;d10;d7;b13 1 0 20;b2 0 5 1;h9 1;h1 0;");
        due("sun(0)", x.sun(0), 0);
        due("sun(1)", x.sun(1), 10);
        due("sun(2)", x.sun(2), 7);
        due("sun(3)", x.sun(3), BAD);
        due("sun(-1)", x.sun(-1), BAD);
        int[] first = {13, 1, -2, 20};
        int[] second = {2, 0, 3, 1};
        for (int what = 0; what < 4; what++) {
            due("bribe(0, " + what + ")", x.bribe(0, what), first[what]);
            due("bribe(1, " + what + ")", x.bribe(1, what), second[what]);
        }
        due("bribe(2, 0)", x.bribe(2, 0), NO);
        due("bribe(-1, 0)", x.bribe(-1, 0), NO);
        due("bribe(0, 4)", x.bribe(0, 4), NO);
        due("bribe(0, -1)", x.bribe(0, -1), NO);
        due("bribe(1, -1)", x.bribe(1, -1), NO);
        x.winds(2, 0);
        due("trade(0, 0)", x.trade(0, 0), 9);
        due("trade(0, 1)", x.trade(0, 1), 1);
        due("trade(0, 2)", x.trade(0, 2), 18);
        due("trade(1, 0)", x.trade(1, 0), 1);
        due("trade(1, 1)", x.trade(1, 1), 0);
        due("trade(1, 2)", x.trade(1, 2), 0);
        due("trade(2, 0)", x.trade(2, 0), BAD);
        due("trade(-1, 0)", x.trade(-1, 0), BAD);
        due("trade(0, 3)", x.trade(0, 3), BAD);
        due("trade(0, -1)", x.trade(0, -1), BAD);
    }

    private static void winding() {
        TowerPrisoner x = told("d0;d0;d0;d0;d0;d0;b0 1 5 7;b0 0 5 5;b0 1 4 2;b1 0 1 9;"
                + "b1 0 0 3;h2 0;h3 1;r60;l2;");
        due("winds(4, 0)", x.winds(4, 0), BAD);
        due("winds(-3, 0)", x.winds(-3, 0), BAD);
        due("winds(0, -1)", x.winds(0, -1), BAD);
        due("winds(0, 10000)", x.winds(0, 10000), BAD);
        nows("refused", x, 0, 60, 0, 0, 0, 0, 0, 0);
        due("winds(3, 9999)", x.winds(3, 9999), 0);
        nows("quick", x, 1, 53, 3, 14, 9, 0, 0, 0);
        due("winds(-1, 0)", x.winds(-1, 0), 0);
        nows("less quick", x, 2, 50, 2, 23, 15, 0, 0, 0);
        due("winds(-2, 0)", x.winds(-2, 0), 0);
        nows("right", x, 3, 48, 0, 23, 15, 0, 0, 0);
        due("winds(-2, 0)", x.winds(-2, 0), 0);
        nows("slow", x, 4, 46, -2, 23, 19, 0, 0, 0);
        due("trade(0, 2)", x.trade(0, 2), 4);
        due("trade(1, 2)", x.trade(1, 2), 15);
        x.winds(0, 0);
        due("BAD ahead of STATE", x.winds(7, 0), BAD);
        x.winds(0, 0);
        nows("over", x, 6, 38, -2, 23, 27, 0, 1, 0);
        due("winds(0, 0), OVER", x.winds(0, 0), STATE);
        due("winds(9, 0), OVER", x.winds(9, 0), BAD);
        nows("still over", x, 6, 38, -2, 23, 27, 0, 1, 0);
    }

    private static void checking() {
        // DRAW of day 0 is 0 by z 0, 1 by z 2; see draws() for the others.
        due("z 0, SUN 0", told("d0;").winds(3, 0), 0);
        due("z 0, SUN 1", told("d1;").winds(2, 0), 1);
        due("z 0, SUN 1, beyond LIMIT", told("d1;").winds(3, 0), 2);
        due("z 2, SUN 1", told("d1;").winds(3, 2), 0);
        due("z 2, SUN 2", told("d2;").winds(3, 2), 2);
        TowerPrisoner x = told("d10;d10;d10;h5 1;h5 0;b0 1 5 4;r30;l2;a9;");
        due("found", x.winds(3, 5), 2);
        nows("found", x, 1, 32, 0, 4, 15, 1, 0, 0);
        due("at the limit", x.winds(-2, 5), 1);
        nows("at the limit", x, 2, 30, -2, 4, 25, 1, 0, 0);
        due("found slow", x.winds(-1, 5), 2);
        nows("found slow", x, 3, 36, 0, 4, 40, 2, 1, 0);
        x = told("d10;d10;r7;l0;a0;");
        due("found and free", x.winds(3, 5), 2);
        nows("found and free", x, 1, 0, 0, 0, 0, 1, 0, 1);
        due("winds, FREE", x.winds(0, 0), STATE);
        x = told("d10;d10;r7;l0;a1;");
        due("found, so not free", x.winds(3, 5), 2);
        nows("found, so not free", x, 1, 1, 0, 0, 0, 1, 0, 0);
        x = told("d10;d10;r3;l0;");
        due("free", x.winds(0, 5), 1);
        nows("free", x, 1, 0, 0, 0, 0, 0, 0, 1);
        due("watches, FREE", x.watches(), STATE);
    }

    // The least SUN that checks, less 1, is the DRAW.
    private static int drawOf(int day, int z) {
        for (int sun = 0; sun <= 10; sun++) {
            StringBuilder text = new StringBuilder("r60;");
            for (int d = 0; d <= day; d++) {
                text.append('d').append(d < day ? 0 : sun).append(';');
            }
            TowerPrisoner x = told(text.toString());
            repeat(x, day, 0);
            if (x.winds(0, z) == 1) {
                return sun - 1;
            }
        }
        return 10;
    }

    private static void draws() {
        int[][] wants = {{0, 0, 0}, {0, 1, 0}, {0, 2, 1}, {0, 3, 3}, {0, 9999, 2}, {1, 0, 5},
            {2, 5, 2}, {3, 777, 6}, {5, 1234, 2}, {7, 42, 0}, {9, 100, 7}, {13, 0, 3},
            {13, 9999, 9}};
        for (int[] w : wants) {
            due("DRAW of day " + w[0] + " by " + w[1], drawOf(w[0], w[1]), w[2]);
        }
    }

    private static void edgesOfError() {
        TowerPrisoner x = told("d0;d0;d0;d0;d0;d0;d0;d0;d0;r60;l6;");
        repeat(x, 3, 3);
        due("beyond 9", x.winds(1, 0), STATE);
        due("beyond 9 by 3", x.winds(3, 0), STATE);
        nows("at 9", x, 3, 39, 9, 0, 0, 0, 0, 0);
        due("corrects(1)", x.corrects(1), NO);
        due("corrects(-9)", x.corrects(-9), 0);
        repeat(x, 4, -2);
        due("beyond -9", x.winds(-2, 0), STATE);
        due("corrects(-2)", x.corrects(-2), NO);
        due("corrects(-1)", x.corrects(-1), -9);
        due("beyond -9 by 1", x.winds(-1, 0), STATE);
        due("winds(0, 0)", x.winds(0, 0), 0);
    }

    private static void watching() {
        TowerPrisoner x = told("d0;d0;d0;h1 1;r30;l2;a9;");
        due("watches()", x.watches(), 1);
        due("it is known", x.count(6), 1);
        x.winds(3, 0);
        due("watches(), found", x.watches(), 2);
        nows("found", x, 1, 32, 0, 0, 3, 1, 0, 0);
        for (int i = 0; i < 8; i++) {
            x.corrects(i % 2 == 0 ? 3 : -3);
            due("watches() again", x.watches(), 2);
        }
        nows("found often", x, 1, 99, 0, 0, 3, 9, 0, 0);
        x.corrects(2);
        due("watches() at the limit", x.watches(), 1);
        x.corrects(-4);
        due("watches() at the limit, slow", x.watches(), 1);
        x.winds(0, 0);
        x.winds(0, 0);
        due("watches(), OVER", x.watches(), STATE);
        due("watches(), no DAYS", new TowerPrisoner().watches(), STATE);
    }

    private static void paying() {
        TowerPrisoner x = told("d0;d0;d0;b0 1 5 20;b0 1 5 20;h9 1;h1 1;");
        due("pays(0, 1) of none", x.pays(0, 1), STATE);
        x.winds(3, 0);
        due("pays(2, 1)", x.pays(2, 1), BAD);
        due("pays(-1, 1)", x.pays(-1, 1), BAD);
        due("pays(0, 0)", x.pays(0, 0), BAD);
        due("pays(0, -1)", x.pays(0, -1), BAD);
        due("pays(0, 100)", x.pays(0, 100), BAD);
        due("pays(0, 99)", x.pays(0, 99), STATE);
        due("pays(0, 41)", x.pays(0, 41), STATE);
        due("nothing is known of them", x.count(6), 1);
        due("pays(0, 7)", x.pays(0, 7), 20);
        due("pays(1, 5)", x.pays(1, 5), 0);
        nows("paid", x, 1, 13, 3, 28, 20, 0, 0, 0);
        x.corrects(-3);
        x.winds(3, 0);
        x.winds(3, 0);
        nows("free and over", x, 3, 0, 6, 28, 110, 0, 1, 1);
        due("pays(0, 28) when all is over", x.pays(0, 28), 73);
        due("now(3)", x.now(3), 0);
        due("pays(0, 1) when he has none", x.pays(0, 1), STATE);
    }

    private static void correcting() {
        TowerPrisoner x = told("d0;d0;h1 1;r4;");
        due("corrects(0)", x.corrects(0), NO);
        due("corrects(10)", x.corrects(10), NO);
        due("corrects(-10)", x.corrects(-10), NO);
        due("corrects(9)", x.corrects(9), 9);
        nows("9", x, 0, 4, 9, 0, 0, 0, 0, 0);
        due("corrects(-9)", x.corrects(-9), 0);
        due("corrects(-9) once more", x.corrects(-9), -9);
        due("corrects(-1)", x.corrects(-1), NO);
        due("corrects(5)", x.corrects(5), -4);
        due("corrects(10) from below 0", x.corrects(10), NO);
        due("corrects(9) from below 0", x.corrects(9), 5);
        due("corrects(-10) from above 0", x.corrects(-10), NO);
        x.undo();
        due("count(6)", x.count(6), 4);
        x.winds(0, 0);
        due("corrects(1), FREE", x.corrects(1), NO);
        due("corrects(1), OVER", new TowerPrisoner().corrects(1), NO);
        x = told("d0;r9;");
        x.winds(0, 0);
        due("corrects(1), OVER, not FREE", x.corrects(1), NO);
    }

    private static void undoing() {
        TowerPrisoner x = told("d10;d0;d0;b0 1 5 9;h2 1;r30;l2;a5;");
        x.winds(3, 0);
        x.pays(0, 4);
        x.corrects(-3);
        x.watches();
        nows("done", x, 1, 33, 0, 5, 2, 2, 0, 0);
        due("undo() of watches", x.undo(), 3);
        nows("watches undone", x, 1, 28, -3, 5, 2, 1, 0, 0);
        due("undo() of corrects", x.undo(), 2);
        nows("corrects undone", x, 1, 28, 0, 5, 2, 1, 0, 0);
        due("undo() of pays", x.undo(), 1);
        nows("pays undone", x, 1, 28, 0, 9, 6, 1, 0, 0);
        due("undo() of winds", x.undo(), 0);
        nows("winds undone", x, 0, 30, 0, 0, 0, 0, 0, 0);
        due("undo() of none", x.undo(), STATE);
        for (int i = 0; i < 12; i++) {
            x.corrects(i < 9 ? 1 : -1);
            due("count(6)", x.count(6), Math.min(10, i + 1));
        }
        for (int i = 9; i >= 0; i--) {
            due("undo() of ten", x.undo(), i);
        }
        due("older ones are lost", x.undo(), STATE);
        due("now(2)", x.now(2), 2);
        x.winds(9, 0);
        x.watches();
        x.undo();
        due("what was refused is not known", x.undo(), STATE);
    }

    private static void freeUndone() {
        TowerPrisoner x = told("d0;r4;");
        x.winds(0, 0);
        nows("free", x, 1, 0, 0, 0, 0, 0, 1, 1);
        due("undo()", x.undo(), 0);
        nows("not free", x, 0, 4, 0, 0, 0, 0, 0, 0);
        due("now(-1)", x.now(-1), NO);
        due("now(8)", x.now(8), NO);
    }

    private static void soonest() {
        due("no DAYS", new TowerPrisoner().soonest(), NONE);
        due("r7", told("d0;d0;r7;").soonest(), 1);
        due("r8", told("d0;d0;r8;").soonest(), 2);
        due("r14", told("d0;d0;r14;").soonest(), 2);
        due("r15", told("d0;d0;r15;").soonest(), NONE);
        due("r21", told("d0;d0;d0;d0;d0;r21;").soonest(), 3);
        // Behind three days ERROR is 9, and each day shows 4 from then on.
        due("r25", told("d0;d0;d0;d0;d0;r25;").soonest(), 4);
        due("r26", told("d0;d0;d0;d0;d0;r26;").soonest(), 5);
        due("r30", told("d0;d0;d0;d0;d0;r30;").soonest(), NONE);
        due("checks don't count", told("d10;d10;r14;l0;").soonest(), 2);
        TowerPrisoner x = told("d0;d0;d0;r14;");
        x.corrects(8);
        due("at 8", x.soonest(), NONE);
        x.corrects(-1);
        due("at 7", x.soonest(), 3);
        x.winds(2, 0);
        due("a day behind", x.soonest(), 2);
        x.winds(0, 0);
        x.winds(0, 0);
        due("free, over", x.soonest(), 0);
    }

    private static void chanceIs(TowerPrisoner x, int n, int upper, int lower, int pace) {
        due("chance(" + n + ", 0)", x.chance(n, 0), upper);
        due("chance(" + n + ", 1)", x.chance(n, 1), lower);
        due("chance(" + n + ", 2)", x.chance(n, 2), pace);
    }

    private static void chances() {
        TowerPrisoner x = new TowerPrisoner();
        due("chance(-1, 0)", x.chance(-1, 0), NO);
        due("chance(9, 0)", x.chance(9, 0), NO);
        due("chance(1, -1)", x.chance(1, -1), NO);
        due("chance(1, 3)", x.chance(1, 3), NO);
        chanceIs(x, 8, 0, 1, NONE);
        x = told("d3;d5;r7;l2;a3;");
        chanceIs(x, 0, 0, 1, NONE);
        // Pace 3 is checked by 3 of 10, and then REST is 3 again.
        chanceIs(x, 1, 7, 10, 3);
        chanceIs(x, 2, 1, 1, -2);
        chanceIs(x, 8, 1, 1, -2);
        chanceIs(x, 0, 0, 1, NONE);
        x = told("d3;d5;r12;l2;a3;");
        chanceIs(x, 1, 0, 1, -2);
        // 1 and 3, or 2 and 2: found by 5 of 10 at last.
        chanceIs(x, 2, 1, 2, 1);
        x = told("d3;d4;r12;l6;");
        chanceIs(x, 2, 1, 1, 1);
        x = told("d2;r7;l0;a0;");
        chanceIs(x, 1, 1, 1, 3);
        x.winds(3, 2);
        chanceIs(x, 0, 1, 1, NONE);
        chanceIs(x, 8, 1, 1, NONE);
        x = told("d0;r60;");
        x.corrects(-9);
        chanceIs(x, 1, 0, 1, 0);
        x.corrects(1);
        chanceIs(x, 1, 0, 1, -1);
        x.corrects(9);
        chanceIs(x, 1, 0, 1, -2);
        x.winds(0, 2);
        chanceIs(x, 1, 0, 1, NONE);
        x = told("d0;d0;r8;");
        x.corrects(-9);
        chanceIs(x, 2, 1, 1, 0);
        x.winds(0, 0);
        chanceIs(x, 1, 1, 1, 0);
    }

    private static void chancesOfTheFound() {
        // Only -2 is right at the end of the first day, and leaves 1.
        TowerPrisoner x = told("d10;d10;r3;l0;a9;");
        x.corrects(2);
        chanceIs(x, 2, 1, 1, -2);
        // He is surely found, and a day from 0 by 2 shows 6 unfound.
        x = told("d10;d10;r11;l2;a1;");
        x.corrects(5);
        chanceIs(x, 2, 1, 1, 2);
    }

    private static void chancesOfManyDays() {
        // Both days by 3, and not found by 9 of 10 on either.
        TowerPrisoner x = told("d1;d1;d1;d1;d1;d1;d1;d1;r14;l0;a9;");
        chanceIs(x, 2, 81, 100, 3);
        chanceIs(told("d10;d10;d10;d10;d10;d10;d10;d10;r32;l0;a9;"), 8, 1, 1, 0);
        chanceIs(told("d10;d10;d10;d10;d10;d10;d10;d10;r33;l0;a9;"), 8, 0, 1, -2);
        chanceIs(told("d10;d10;d10;d10;d10;d10;d10;d10;r33;l0;a0;"), 8, 1, 1, -2);
        chanceIs(told("d10;d10;d10;d10;d10;d10;d10;d10;r56;l0;a0;"), 8, 1, 1, 3);
        chanceIs(told("d1;d1;d1;d1;d1;d1;d1;d1;r33;l0;a9;"), 8, 9477, 10000, 0);
    }

    private static void safe() {
        TowerPrisoner x = new TowerPrisoner();
        due("safe(-1)", x.safe(-1), NO);
        due("safe(2)", x.safe(2), NO);
        due("safe(0), OVER", x.safe(0), 0);
        due("safe(1), OVER", x.safe(1), NONE);
        // 3 would be beyond LIMIT; 2 and 2 too, but 2, 0 and 1, 1 and 0, 2 are not.
        x = told("d9;d9;d9;b0 1 4 10;b1 1 4 9;b2 0 0 5;b0 1 5 20;r60;l2;");
        due("safe(0)", x.safe(0), 15);
        due("safe(1)", x.safe(1), 2);
        x = told("d9;d9;b0 1 4 5;b1 1 4 9;r60;l2;");
        due("safe(0), the second", x.safe(0), 9);
        due("safe(1), the lowest", x.safe(1), -2);
        x = told("d9;d9;d9;b2 0 5 5;b0 1 4 1;r8;l2;");
        // By pace 2, for a candle, he would be free ahead of the third day, which brings five.
        due("safe(0), till he is free", x.safe(0), 5);
        due("safe(1), till he is free", x.safe(1), -2);
        due("REST is 1 behind a day", told("d9;d9;b1 0 5 9;r5;l0;").safe(0), 9);
        due("REST is 0 behind a day", told("d9;d9;b0 0 5 3;b1 0 5 9;r4;l0;").safe(0), 3);
        x = told("d9;d9;b1 0 5 7;r4;");
        x.winds(0, 0);
        due("safe(0), FREE", x.safe(0), 0);
        due("safe(1), FREE", x.safe(1), NONE);
        x = told("d0;d0;b0 0 0 9;b0 0 1 2;r60;l2;");
        x.corrects(5);
        due("safe(0), none", x.safe(0), NONE);
        due("safe(1), none", x.safe(1), NONE);
        x.corrects(-1);
        due("safe(0), back to the limit", x.safe(0), 11);
        due("safe(1), back to the limit", x.safe(1), -2);
        x.corrects(-1);
        due("safe(0), by -1 too", x.safe(0), 11);
        x.corrects(-8);
        due("safe(0), none of the slow", x.safe(0), 0);
        due("safe(1), none of the slow", x.safe(1), 3);
    }

    private static void least() {
        TowerPrisoner x = new TowerPrisoner();
        due("least(-1, 0)", x.least(-1, 0), NO);
        due("least(15, 0)", x.least(15, 0), NO);
        due("least(1, -1)", x.least(1, -1), NO);
        due("least(1, 2)", x.least(1, 2), NO);
        due("least(14, 0), OVER", x.least(14, 0), NONE);
        x = told("d0;d0;d0;h2 1;h1 0;r12;");
        due("least(0, 0)", x.least(0, 0), NONE);
        due("least(0, 1)", x.least(0, 1), NONE);
        due("least(1, 0)", x.least(1, 0), NONE);
        // 12 in two days: ERROR is 4 at last, 1 at least at first.
        due("least(2, 0)", x.least(2, 0), 10);
        due("least(2, 1)", x.least(2, 1), 1);
        due("least(3, 0)", x.least(3, 0), 0);
        due("least(3, 1)", x.least(3, 1), 0);
        due("least(14, 0)", x.least(14, 0), 0);
        x.winds(1, 0);
        due("least(1, 0), a day behind", x.least(1, 0), 8);
        due("least(1, 1), a day behind", x.least(1, 1), 3);
        x.winds(3, 0);
        due("least(0, 0), FREE", x.least(0, 0), 0);
        due("least(0, 1), FREE", x.least(0, 1), NONE);
        x = told("d0;d0;h3 0;r8;");
        due("least(2, 0)", x.least(2, 0), 0);
        due("least, the lowest of those that harm none", x.least(2, 1), 0);
        x.corrects(-3);
        // -3 and 3 is free of harm behind a day, but 7 are not enough: 3, then 0 or more.
        due("least(2, 0), slow", x.least(2, 0), 0);
        due("least(2, 1), slow", x.least(2, 1), 3);
        due("least(1, 0), slow", x.least(1, 0), NONE);
        due("checks don't count", told("d10;d10;h1 1;r14;l0;a9;").least(2, 0), 9);
        leastAtTheEdges();
    }

    private static void leastAtTheEdges() {
        TowerPrisoner x = told("d0;d0;d0;h1 1;r21;");
        due("too few days", x.least(1, 0), NONE);
        due("too few days again", x.least(1, 0), NONE);
        due("3, 6 and 9", x.least(3, 0), 18);
        x = told("d0;d0;h1 1;r12;");
        x.corrects(-9);
        due("0 at first is too little", x.least(2, 1), 1);
        x = told("d0;d0;h1 1;r8;");
        due("safe(0) ahead of it", x.safe(0), 0);
        x.corrects(9);
        due("least(2, 0) at 9", x.least(2, 0), 16);
        due("least(2, 1) at 9", x.least(2, 1), -2);
        x.corrects(-9);
        x.corrects(-9);
        due("least(2, 0) at -9", x.least(2, 0), 0);
        due("least(2, 1) at -9", x.least(2, 1), 0);
    }

    private static void catches() {
        TowerPrisoner x = told("d0;d0;d0;d0;d0;r20;l4;");
        due("catches(-3)", x.catches(-3), BAD);
        due("catches(4)", x.catches(4), BAD);
        due("catches(0)", x.catches(0), NONE);
        due("catches(1), 20 are shown behind 4", x.catches(1), NONE);
        due("catches(2)", x.catches(2), 3);
        due("catches(3)", x.catches(3), 2);
        due("catches(-2)", x.catches(-2), 3);
        due("catches(-1)", x.catches(-1), 5);
        x.winds(-1, 0);
        due("catches(-1), four days are left", x.catches(-1), 4);
        x.winds(0, 0);
        due("catches(-1), three days are left", x.catches(-1), NONE);
        due("catches(-2)", x.catches(-2), 2);
        x.corrects(-4);
        due("catches(3), it is NOW", x.catches(3), 0);
        due("catches(0), it is NOW", x.catches(0), 0);
        due("catches(4) is BAD", x.catches(4), BAD);
        due("catches(3), OVER", new TowerPrisoner().catches(3), NONE);
        due("REST is 1 behind a day", told("d0;d0;d0;r6;l1;").catches(1), 2);
        due("REST is 0 behind a day", told("d0;d0;d0;r5;l1;").catches(1), NONE);
        // The turn that frees him lets ERROR be above LIMIT: he is not FREE ahead of that.
        due("free by the same turn", told("d0;r7;l2;").catches(3), 1);
        due("free a turn ahead", told("d0;d0;r7;l3;").catches(3), NONE);
        x = told("d0;d0;r7;l3;");
        x.winds(3, 0);
        due("catches(3), FREE", x.catches(3), NONE);
    }

    private static void hearing() {
        TowerPrisoner x = new TowerPrisoner();
        due("hears(-1, 0, 0)", x.hears(-1, 0, 0), BAD);
        due("hears(14, 0, 0)", x.hears(14, 0, 0), BAD);
        due("hears(0, -10, 0)", x.hears(0, -10, 0), BAD);
        due("hears(0, 10, 0)", x.hears(0, 10, 0), BAD);
        due("hears(0, 0, -1)", x.hears(0, 0, -1), BAD);
        due("hears(0, 0, 4)", x.hears(0, 0, 4), BAD);
        due("count(5)", x.count(5), 0);
        due("hears(13, 9, 3)", x.hears(13, 9, 3), 1);
        due("could(13)", x.could(13), 0b1111 << 15);
        due("hears(0, -9, 3)", x.hears(0, -9, 3), 2);
        due("could(0), none", x.could(0), 0);
        due("forget()", x.forget(), 2);
        due("forget() again", x.forget(), 0);
        due("count(5)", x.count(5), 0);
        for (int i = 1; i <= 6; i++) {
            due("hears(1, 1, 1)", x.hears(1, 1, 1), i);
        }
        due("a seventh", x.hears(1, 1, 1), FULL);
        due("a seventh that is BAD", x.hears(14, 1, 1), BAD);
        due("count(5)", x.count(5), 6);
        due("could(1)", x.could(1), 0b111 << 9);
        due("could(0)", x.could(0), 0b111111 << 7);
        due("forget()", x.forget(), 6);
        due("could(1)", x.could(1), 0b11111111111 << 5);
        x.hears(10, 0, 0);
        due("could(9)", x.could(9), 0b111111 << 6);
        due("could(8)", x.could(8), 0b11111111111 << 3);
        due("could(11)", x.could(11), 0b111111 << 7);
    }

    private static void coulds() {
        TowerPrisoner x = told("d0;d0;r60;");
        x.winds(3, 0);
        x.corrects(5);
        due("could(-1)", x.could(-1), BAD);
        due("could(14)", x.could(14), BAD);
        due("could(0), whatever NOW is", x.could(0), 8064);
        due("could(3)", x.could(3), 524286);
        due("could(4)", x.could(4), 524287);
        due("ask()", x.ask(), 4);
        x.hears(2, 9, 0);
        due("could(0) by what was later", x.could(0), 1 << 12);
        due("could(1)", x.could(1), 1 << 15);
        due("could(2)", x.could(2), 1 << 18);
        due("could(3)", x.could(3), 0b111 << 16);
        due("ask()", x.ask(), 11);
        x.hears(4, 9, 2);
        due("could(3), two were heard", x.could(3), 0b111 << 16);
        due("could(4)", x.could(4), 0b111 << 16);
        x.forget();
        x.hears(5, 0, 1);
        x.hears(5, 2, 1);
        due("both are so", x.could(5), 1 << 10);
        x.hears(5, 0, 0);
        due("could(13), none", x.could(13), 0);
        due("ask(), none", x.ask(), NONE);
        due("ways(), none", x.ways(), 0);
    }

    private static void ways() {
        TowerPrisoner x = new TowerPrisoner();
        due("ways()", x.ways(), 683903);
        x.hears(13, 0, 0);
        due("ways() to 0", x.ways(), 289464);
        x.hears(6, -4, 1);
        due("ways() by day 6", x.ways(), 744937);
        x.forget();
        x.hears(0, 3, 0);
        due("ways() by day 0", x.ways(), 280877);
        x.forget();
        for (int d = 2; d <= 10; d += 4) {
            x.hears(d, d == 6 ? -9 : 9, 0);
        }
        x.hears(13, 9, 0);
        // No way from 9 to -9 in four days of -2.
        due("ways(), none", x.ways(), 0);
        due("could(7), none", x.could(7), 0);
        x.forget();
        x.hears(2, 9, 0);
        x.hears(11, -9, 0);
        x.hears(13, -3, 0);
        // One row up to 9, nine days of -2 down to -9, and one row up to -3.
        due("ways(), the one to the deep", x.ways(), 1);
        due("ask(), of several the first", x.ask(), 0);
    }

    private static void marks() {
        TowerPrisoner x = told("d0;d0;d0;b0 1 5 20;h4 0;h7 1;r60;");
        x.winds(3, 0);
        x.winds(-1, 0);
        int[] wants = {7, 42, 5, 84, 6, 27};
        int[] traces = {1, 11, 101, 1011, 10101, 100001};
        long trace = 0;
        for (int kind = 0; kind < 6; kind++) {
            due("mark(" + kind + ", 1)", x.mark(kind, 1), wants[kind]);
            trace += traces[kind];
            due("trace() behind kind " + kind, x.trace(), trace);
        }
        due("mark(6, 0)", x.mark(6, 0), NO);
        due("mark(-1, 0)", x.mark(-1, 0), NO);
        due("mark(0, 2)", x.mark(0, 2), NO);
        due("mark(0, -1)", x.mark(0, -1), NO);
        due("trace() is as it was", x.trace(), trace);
        due("mark(4, 0)", x.mark(4, 0), 2);
        due("mark(3, 0)", x.mark(3, 0), 8);
        x.corrects(6);
        due("mark(2, 0) below 0", x.mark(2, 0), -4);
        x.undo();
        due("trace() is not undone", x.trace(), trace + 10101 + 1011 + 101);
    }

    private static void images() {
        TowerPrisoner x = told("d0;d10;d0;b0 1 5 8;h1 1;r30;l2;");
        due("keep(2)", x.keep(2), BAD);
        due("keep(-1)", x.keep(-1), BAD);
        due("back(2)", x.back(2), BAD);
        due("back(-1)", x.back(-1), BAD);
        due("back(0)", x.back(0), STATE);
        x.winds(3, 0);
        due("keep(1)", x.keep(1), 1);
        due("back(0), none was kept", x.back(0), STATE);
        x.hears(1, 1, 1);
        x.winds(3, 0);
        x.pays(0, 2);
        due("keep(0)", x.keep(0), 2);
        x.undo();
        x.winds(1, 0);
        x.mark(0, 0);
        due("back(1)", x.back(1), 1);
        nows("image 1", x, 1, 23, 3, 8, 3, 0, 0, 0);
        counts("image 1", x, 3, 1, 1, 2, 3, 1, 1, 0);
        due("trace() is not in it", x.trace(), 1);
        due("undo()", x.undo(), 0);
        nows("undone", x, 0, 30, 0, 0, 0, 0, 0, 0);
        due("back(0)", x.back(0), 2);
        nows("image 0", x, 2, 19, 0, 6, 7, 1, 0, 0);
        due("undo()", x.undo(), 2);
        due("now(3)", x.now(3), 8);
        due("back(0) again", x.back(0), 2);
        due("count(6)", x.count(6), 3);
        due("now(3)", x.now(3), 6);
        x.corrects(1);
        due("keep(0) anew", x.keep(0), 2);
        x.undo();
        x.back(0);
        due("now(2)", x.now(2), 1);
        Check.typed(x, "d0");
        x.back(1);
        due("the text is not in it", x.count(7), 2);
    }

    private static void countsOfAll() {
        TowerPrisoner x = told("d0;d0;b0 0 0 1;b0 0 0 1;b0 0 0 1;h1 0;h1 0;h1 0;h1 0;l5;a6;");
        x.hears(0, 0, 0);
        x.hears(0, 0, 0);
        x.watches();
        x.watches();
        x.watches();
        x.type(0);
        counts("all", x, 2, 3, 4, 5, 6, 2, 3, 1);
        due("count(-1)", x.count(-1), BAD);
        due("count(8)", x.count(8), BAD);
    }

    public static void main(String[] args) {
        newObject();
        typing();
        texts();
        faultsOfItems();
        faultsOfNumbers();
        faultsOfBytes();
        readAnew();
        parts();
        winding();
        checking();
        draws();
        edgesOfError();
        watching();
        paying();
        correcting();
        undoing();
        freeUndone();
        soonest();
        chances();
        chancesOfTheFound();
        chancesOfManyDays();
        safe();
        least();
        catches();
        hearing();
        coulds();
        ways();
        marks();
        images();
        countsOfAll();
        Check.end();
    }
}
