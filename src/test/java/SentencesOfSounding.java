import java.util.Arrays;

/** Terms, II, and promises 14 to 24, sentence by sentence: where it sounds, tunes, how long. */
final class SentencesOfSounding {
    private static final int LEAST = Integer.MIN_VALUE;
    private static final int MOST = Integer.MAX_VALUE;
    /** TIGHT 11 .. 22, FORCE 16 .. 36; a GRIP for all of it, one for TIGHT 11 alone, one too small by one. */
    private static final String ONE = "b06103;t530;t511;t510;k00;k10;";
    /** No such BLADE, THUMBS or BLOW, where there is one of each. */
    private static final int[][] NOBODY = {{1, 0, 0}, {-1, 0, 0}, {LEAST, 0, 0}, {MOST, 0, 0}, {0, 1, 0}, {0, -1, 0},
        {0, LEAST, 0}, {0, MOST, 0}, {0, 0, 1}, {0, 0, -1}, {0, 0, LEAST}, {0, 0, MOST}};
    private static final int[] OUT_OF_60 = {-1, 61, LEAST, MOST};
    private final Sentences s;

    SentencesOfSounding(Sentences s) {
        this.s = s;
    }

    void all() {
        where();
        whoCan();
        which();
        wrong();
        next();
        halves();
        tune();
        lasts();
        bestForce();
        clash();
        promises14To16();
        promises17And18();
        promises19To21();
        promises22To24();
    }

    // ---- Terms, II

    private void where() {
        s.says("II. WHERE: how many pairs of TIGHT and FORCE (0 .. 60 each) there are with which it SOUNDS; the least "
            + "TIGHT, FORCE of these; -4.");
        BladeBetweenThumbs x = Due.told(ONE);
        int[][] want = {{252, 11, 16}, {21, 11, 16}, {0, -4, -4}};
        for (int t = 0; t < 3; t++) {
            for (int what = 0; what < 3; what++) {
                s.is("THUMBS " + t + ", what " + what, x.where(0, t, 0, what), want[t][what]);
                s.is("EMPTY, THUMBS " + t + ", what " + what, x.where(0, t, 1, what), what == 0 ? 0 : -4);
            }
        }
        // A SHRIEKING one: five TIGHT, FORCE 40 .. 60, 44 .. 64, 48 .. 68.
        BladeBetweenThumbs y = Due.told("b01240;t760;t860;t960;k30;");
        s.is("FORCE up to 60", y.where(0, 0, 0, 0), 5 * 21);
        s.is("no FORCE above 60: 44 .. 60", y.where(0, 1, 0, 0), 5 * 17);
        s.is("no FORCE above 60: 48 .. 60", y.where(0, 2, 0, 0), 5 * 13);
        s.is("the least of these", y.where(0, 2, 0, 2), 48);
        BladeBetweenThumbs z = Due.told("b01240;t060;t000;k20;");
        s.is("TIGHT 0 .. 8", z.where(0, 0, 0, 0), 9 * 21);
        s.is("the least TIGHT", z.where(0, 0, 0, 1), 0);
        s.is("GRIP 0, TIGHT 0", z.where(0, 1, 0, 0), 21);
    }

    private void whoCan() {
        s.says("WHO CAN: THUMBS (bits) with which some BLADE (not SPLIT) and some BLOW SOUND;");
        BladeBetweenThumbs x = Due.told("b05010;t004;t005;t014;t060;k10;");
        s.is("by an EMPTY one", x.whoCan(), 0);
        x.keep(0, 1, 0, 0);
        x.learns(0);
        s.is("from GRIP 5 on", x.whoCan(), 2 + 4 + 8);
        x.grows(1, 1, 0);
        s.is("by a later BLADE all can", x.whoCan(), 15);
        x.tries(1, 0, 1, 0, 60);
        s.is("that one is SPLIT", x.whoCan(), 2 + 4 + 8);
        x.tries(0, 0, 1, 0, 60);
        s.is("both are", x.whoCan(), 0);
        s.is("no BLADES, THUMBS, BLOWS", new BladeBetweenThumbs().whoCan(), 0);
        s.is("no BLADES", Due.told("t060;k00;").whoCan(), 0);
        s.is("no BLOWS", Due.told("b01010;t060;").whoCan(), 0);
        BladeBetweenThumbs y = Due.told("b24010;b24010;b24010;b24010;b24010;b01010;t004;k10;k10;k10;k10;k10;k00;");
        s.is("by the last BLADE and the last BLOW alone", y.whoCan(), 1);
    }

    private void which() {
        s.says("WHICH BLADE (SPLIT ones aside) has the most such pairs for THUMBS and a BLOW, of several the least; -4 "
            + "none has any.");
        BladeBetweenThumbs x = Due.told("b20010;b05012;b06012;b05011;t060;t004;t005;k00;k10;");
        s.is("the least of two with the most", x.which(0, 0), 1);
        s.is("GRIP is too small for all by one", x.which(1, 0), -4);
        s.is("GRIP does for two, the least of them", x.which(2, 0), 1);
        s.is("by an EMPTY one", x.which(0, 1), -4);
        x.tries(1, 0, 0, 0, 60);
        s.is("SPLIT ones aside", x.which(0, 0), 2);
        s.is("SPLIT ones aside, one is left", x.which(2, 0), 3);
        x.tries(3, 0, 0, 0, 60);
        s.is("SPLIT ones aside, none is left", x.which(2, 0), -4);
        s.is("no BLADES", Due.told("t060;k00;").which(0, 0), -4);
        s.is("the last of six", Due.told("b24010;b24010;b24010;b24010;b24010;b01010;t004;k00;").which(0, 0), 5);
    }

    private void wrong() {
        s.says("WRONG with a TRY (bits): 1 too slack, 2 too tight (for HIGH), 4 beyond GRIP, 8 too soft, 16 too hard.");
        BladeBetweenThumbs x = Due.told(ONE);
        int[][] calls = {{0, 11, 16, 0}, {0, 10, 16, 1}, {0, 0, 16, 1}, {0, 22, 36, 0}, {0, 23, 36, 2}, {0, 30, 36, 2},
            {0, 31, 36, 6}, {1, 11, 16, 0}, {1, 12, 16, 4}, {2, 11, 16, 4}, {2, 10, 16, 1}, {0, 11, 15, 8},
            {0, 11, 0, 8}, {0, 11, 37, 16}, {0, 11, 60, 16}, {0, 0, 0, 9}, {0, 60, 60, 22}, {0, 0, 60, 17},
            {0, 60, 0, 14}};
        for (int[] c : calls) {
            s.is("THUMBS " + c[0] + ", TIGHT " + c[1] + ", FORCE " + c[2], x.wrong(0, c[0], 0, c[1], c[2]), c[3]);
        }
        s.is("an EMPTY one with the greatest FORCE", x.wrong(0, 0, 1, 11, 60), 8);
        BladeBetweenThumbs y = Due.told("b24010;t000;k00;");
        s.is("too slack and beyond GRIP", y.wrong(0, 0, 0, 1, 6), 5);
    }

    private void next() {
        s.says("NEXT: TIGHT and FORCE with which it SOUNDS, nearest to told ones (by both differences together), of "
            + "several the least TIGHT, then FORCE: 100 TIGHT and FORCE; how far; -4.");
        BladeBetweenThumbs x = Due.told(ONE);
        int[][] calls = {{0, 1116, 1116, 0}, {0, 1115, 1116, 1}, {0, 1016, 1116, 1}, {0, 1015, 1116, 2},
            {0, 2236, 2236, 0}, {0, 2237, 2236, 1}, {0, 2336, 2236, 1}, {0, 2337, 2236, 2}, {0, 0, 1116, 27},
            {0, 60, 1136, 35}, {0, 6000, 2216, 54}, {0, 6060, 2236, 62}, {1, 6020, 1120, 49}, {1, 1236, 1136, 1},
            {2, 1116, -4, -4}, {2, 0, -4, -4}};
        for (int[] c : calls) {
            s.is("THUMBS " + c[0] + ", told " + c[1], x.next(0, c[0], 0, c[1], 0), c[2]);
            s.is("how far, THUMBS " + c[0] + ", told " + c[1], x.next(0, c[0], 0, c[1], 1), c[3]);
        }
        s.is("an EMPTY one", x.next(0, 0, 1, 1116, 0), -4);
        s.is("an EMPTY one, how far", x.next(0, 0, 1, 1116, 1), -4);
        s.is("no FORCE above 60", Due.told("b01240;t960;k30;").next(0, 0, 0, 1860, 0), 1860);
    }

    private void halves() {
        s.says("HALVES: of TIGHT 0 .. 60 as one does that tries the middle (the sum of both ends by 2, cut) of what is "
            + "left, being told too slack or too tight (by LOW and HIGH; FORCE aside): how many tries till it is right "
            + "(the right one, too).");
        int[][] calls = {{24, 6, 0, 1}, {22, 0, 0, 1}, {21, 0, 0, 3}, {24, 7, 0, 3}, {24, 9, 3, 2}, {24, 8, 3, 4},
            {1, 0, 0, 3}, {1, 0, 2, 3}, {7, 0, 3, 4}, {14, 0, 0, 2}, {6, 0, 0, 2}, {5, 0, 0, 3}, {24, 9, 1, 3},
            {9, 0, 3, 4}, {10, 0, 3, 3}, {14, 0, 3, 3}, {15, 0, 3, 4}, {24, 1, 3, 3}, {24, 6, 3, 4}};
        for (int[] c : calls) {
            String text = "b" + (c[0] < 10 ? "0" : "") + c[0] + "240;t" + c[1] + "60;t" + c[1] + "00;k" + c[2] + "0;";
            s.is(text, Due.told(text).halves(0, 0, 0), c[3]);
            s.is("GRIP aside: " + text, Due.told(text).halves(0, 1, 0), c[3]);
        }
    }

    private void tune() {
        s.says("TUNE of three PITCHES (0 .. 99 each):");
        BladeBetweenThumbs x = Due.told("b10010;b11010;b12010;t060;t012;t009;t011;k00;");
        int[] out = {-1, 100, LEAST, MOST};
        for (int note : out) {
            s.is("note " + note, x.ways(0, note), -1);
        }
        s.is("note 0", x.ways(0, 0), 0);
        s.is("note 99", x.ways(0, 99), 0);
        s.is("three times 99", x.tune(0, 999999, 1), 0);
        s.is("one too many", x.tune(0, 1000000, 1), -1);
        s.says("for each note a BLADE (not SPLIT), a BLOW, TIGHT, CUP, at which with told THUMBS it SOUNDS (by some "
            + "FORCE) with that PITCH: in how many ways a note can be;");
        // Each BLADE has TIGHT BREADTH .. BREADTH and 8, and so the PITCHES 60 .. 68, with any CUP.
        s.is("below the lowest", x.ways(0, 59), 0);
        s.is("the lowest", x.ways(0, 60), 30);
        s.is("the highest", x.ways(0, 68), 30);
        s.is("above the highest", x.ways(0, 69), 0);
        s.is("GRIP 12: by 10, 11, 12", x.ways(1, 60), 30);
        s.is("GRIP 12: by 10, 11", x.ways(1, 61), 20);
        s.is("GRIP 12: by 10", x.ways(1, 62), 10);
        s.is("GRIP 12: by none", x.ways(1, 63), 0);
        s.is("GRIP 9", x.ways(2, 60), 0);
        x.tries(0, 0, 0, 0, 60);
        s.is("not by a SPLIT one", x.ways(0, 60), 20);
        // CUPPED, BREADTH 1, SLIT 0: TIGHT 0 .. 8, so 59 .. 67 less CUP 0 .. 9.
        BladeBetweenThumbs y = Due.told("b01010;t060;k50;k10;");
        s.is("CUP 9 alone", y.ways(0, 50), 1);
        s.is("below it", y.ways(0, 49), 0);
        s.is("CUP 0 alone", y.ways(0, 67), 1);
        s.is("above it", y.ways(0, 68), 0);
        s.is("CUPS 0 .. 8", y.ways(0, 59), 9);
        s.is("CUPS 1 .. 9", y.ways(0, 58), 9);
        threeUnlike();
    }

    private void threeUnlike() {
        s.says("whether all three can by three unlike BLADES (1, 0);");
        BladeBetweenThumbs x = Due.told("b10010;b11010;t060;t012;t011;k00;");
        s.is("two BLADES are too few", x.tune(0, 606060, 0), 0);
        x.grows(12, 1, 0);
        s.is("three do", x.tune(0, 606060, 0), 1);
        // GRIP 12: BLADE 0 does for 60, 61, 62, BLADE 1 for 60, 61, BLADE 2 for 60.
        int[] can = {626160, 626061, 616260, 606261, 616062, 606162, 626060, 606060, 606160, 616060};
        for (int notes : can) {
            s.is("GRIP 12: " + notes, x.tune(1, notes, 0), 1);
        }
        int[] cannot = {626260, 626161, 616161, 626262, 636160, 616363, 606363};
        for (int notes : cannot) {
            s.is("GRIP 12: " + notes, x.tune(1, notes, 0), 0);
        }
        s.is("GRIP 11: BLADE 2 can none", x.tune(2, 606060, 0), 0);
        BladeBetweenThumbs six = Due.told("b24010;b24010;b24010;b10010;b11010;b12010;t012;k00;");
        s.is("by the last three of six", six.tune(0, 626160, 0), 1);
        s.is("by the last three of six, the other way", six.tune(0, 606162, 0), 1);
        six.tries(5, 0, 0, 0, 60);
        s.is("one of them is SPLIT", six.tune(0, 606060, 0), 0);
        s.says("how many notes can at all.");
        int[][] calls = {{626160, 3}, {626262, 3}, {636160, 2}, {606360, 2}, {606063, 2}, {636360, 1}, {636363, 0},
            {60, 1}, {6000, 1}, {600000, 1}, {609999, 1}, {599999, 0}, {0, 0}};
        for (int[] c : calls) {
            s.is("GRIP 12: " + c[0], x.tune(1, c[0], 1), c[1]);
        }
        s.is("a note that can be in one way alone", Due.told("b01010;t060;k50;").tune(0, 500000, 1), 1);
    }

    private void lasts() {
        s.says("LASTS: how many TRIES of a BLOW with a FORCE a BLADE does till it is SPLIT (that one, too); 99 99 or "
            + "more.");
        BladeBetweenThumbs x = Due.told("b01240;b01010;b01249;t060;k00;k60;k49;");
        int[][] calls = {{1, 10, 2}, {1, 20, 1}, {1, 60, 1}, {1, 9, 99}, {1, 0, 99}, {2, 10, 34}, {2, 30, 12},
            {2, 40, 9}, {2, 60, 6}, {0, 60, 5}, {0, 50, 5}, {0, 40, 7}};
        for (int[] c : calls) {
            s.is("BLADE " + c[0] + ", FORCE " + c[1], x.lasts(c[0], 0, c[1]), c[2]);
        }
        s.is("SOFT", x.lasts(1, 1, 60), 99);
        s.is("15 each of 33", x.lasts(2, 2, 60), 3);
        x.tries(1, 0, 0, 0, 10);
        s.is("none is left to bear", x.lasts(1, 0, 10), 1);
        s.is("and nothing wears", x.lasts(1, 0, 9), 99);
        x.wets(1, 9);
        s.is("9 are left", x.lasts(1, 0, 10), 10);
        x.wets(1, 0);
        x.tries(1, 0, 0, 0, 10);
        s.is("SPLIT", x.lasts(1, 0, 0), -3);
    }

    private void bestForce() {
        s.says("BEST FORCE of a BLOW for a BLADE and THUMBS: of those with which it can SOUND that with the most TRIES "
            + "by LASTS, of several the least; -4.");
        BladeBetweenThumbs x = Due.told("b01249;b01010;t060;t260;t760;t960;k00;k30;k10;k60;");
        s.is("6 .. 9 wear nothing", x.bestForce(0, 0, 0), 6);
        s.is("10 .. 19 wear 1", x.bestForce(0, 1, 0), 10);
        s.is("20 .. 29 wear 2", x.bestForce(0, 2, 0), 20);
        s.is("any splits it at once", x.bestForce(1, 2, 0), 20);
        s.is("SHRIEKING: 48 .. 60", x.bestForce(0, 3, 1), 48);
        s.is("SOFT: none wears", x.bestForce(0, 0, 3), 3);
        s.is("EMPTY", x.bestForce(0, 0, 2), -4);
        BladeBetweenThumbs y = Due.told("b05010;t004;t005;k00;");
        s.is("GRIP is too small by one", y.bestForce(0, 0, 0), -4);
        s.is("GRIP does", y.bestForce(0, 1, 0), 6);
        s.is("the last BLADE by the one BLOW", Due.told("b24010;b05010;t060;k00;").bestForce(1, 0, 0), 6);
    }

    private void clash() {
        s.says("CLASH: pairs of BLADES (10 the lesser and the other) that, by one BLOW, both at TIGHT, without a CUP, "
            + "are 1 or 2 apart in PITCH (whether they SOUND or not): how many; the first; -4.");
        BladeBetweenThumbs x = Due.told("b10010;b10010;b13010;b13010;k10;k50;");
        s.is("0 and 3 apart", x.clash(0, 0, 0), 0);
        s.is("none is the first", x.clash(0, 0, 1), -4);
        x.grows(12, 1, 0);
        s.is("2 apart and 1 apart", x.clash(0, 60, 0), 4);
        s.is("the first", x.clash(0, 60, 1), 4);
        s.is("CUPPED, without a CUP", x.clash(1, 60, 0), 4);
        s.is("a whole hedge", Due.told("b10010;b11010;b12010;b10010;b11010;b12010;k00;").clash(0, 0, 0), 12);
        s.is("the last two alone", Due.told("b01010;b04010;b07010;b10010;b13010;b15010;k00;").clash(0, 0, 1), 45);
        s.is("one BLADE", Due.told("b01010;k00;").clash(0, 0, 1), -4);
        s.is("no BLADES", Due.told("k00;").clash(0, 0, 0), 0);
        s.is("no BLADES, the first", Due.told("k00;").clash(0, 0, 1), -4);
    }

    // ---- promises 14 to 24

    private static BladeBetweenThumbs one() {
        return Due.told("b05010;t104;k00;");
    }

    /** The same BLADE, but SPLIT. */
    private static BladeBetweenThumbs split() {
        return Due.told("b05010;t160;k00;y0000060;");
    }

    private void promises14To16() {
        s.promise(14, "WHERE: how many (what 0), the least TIGHT (1; -4), FORCE (2; -4). -1.");
        BladeBetweenThumbs x = one();
        int[] want = {0, -4, -4};
        for (int what = 0; what < 3; what++) {
            s.is("none, what " + what, x.where(0, 0, 0, what), want[what]);
            for (int[] n : NOBODY) {
                s.is("where" + Arrays.toString(n) + what, x.where(n[0], n[1], n[2], what), -1);
            }
        }
        int[] out = {-1, 3, LEAST, MOST};
        for (int what : out) {
            s.is("-1 ahead of -4, what " + what, x.where(0, 0, 0, what), -1);
        }
        s.is("a SPLIT one has its pairs", split().where(0, 0, 0, 0), 9 * 21);
        s.promise(15, "WHO CAN (bits).");
        s.is("none", x.whoCan(), 0);
        x.comes(1, 6);
        s.is("the second", x.whoCan(), 2);
        s.promise(16, "WHICH BLADE; -4. -1.");
        s.is("none", x.which(0, 0), -4);
        s.is("the first", x.which(1, 0), 0);
        int[][] bad = {{2, 0}, {-1, 0}, {LEAST, 0}, {MOST, 0}, {0, 1}, {0, -1}, {0, LEAST}, {0, MOST}};
        for (int[] n : bad) {
            s.is("which" + Arrays.toString(n), x.which(n[0], n[1]), -1);
        }
    }

    private void promises17And18() {
        s.promise(17, "WRONG (bits). -1.");
        BladeBetweenThumbs x = one();
        for (int[] n : NOBODY) {
            s.is("wrong" + Arrays.toString(n), x.wrong(n[0], n[1], n[2], 0, 0), -1);
        }
        for (int v : OUT_OF_60) {
            s.is("TIGHT " + v, x.wrong(0, 0, 0, v, 0), -1);
            s.is("FORCE " + v, x.wrong(0, 0, 0, 0, v), -1);
        }
        s.is("the least of both", x.wrong(0, 0, 0, 0, 0), 9);
        s.is("the greatest of both", x.wrong(0, 0, 0, 60, 60), 22);
        s.is("a SPLIT one SOUNDS, were it blown", split().wrong(0, 0, 0, 6, 8), 0);
        s.promise(18, "NEXT: 100 TIGHT and FORCE (what 0; -4), how far (1; -4). -1; told by one number: 100 TIGHT and "
            + "FORCE.");
        int[] out = {-1, -60, -100, -6060, 61, 99, 161, 6061, 6100, 6160, 9999, 10000, LEAST, MOST};
        for (int what = 0; what < 2; what++) {
            for (int told : out) {
                s.is("told " + told, x.next(0, 0, 0, told, what), -1);
            }
            for (int[] n : NOBODY) {
                s.is("next" + Arrays.toString(n), x.next(n[0], n[1], n[2], 0, what), -1);
            }
            s.is("none", x.next(0, 0, 0, 0, what), -4);
            s.is("none, told the greatest", x.next(0, 0, 0, 6060, what), -4);
        }
        int[] bad = {-1, 2, LEAST, MOST};
        for (int what : bad) {
            s.is("-1 ahead of -4, what " + what, x.next(0, 0, 0, 0, what), -1);
        }
        s.is("TIGHT 0 and FORCE 60", split().next(0, 0, 0, 60, 0), 628);
        s.is("how far", split().next(0, 0, 0, 60, 1), 38);
    }

    private void promises19To21() {
        s.promise(19, "HALVES; -4 there is no right one in 0 .. 60. -1.");
        BladeBetweenThumbs x = one();
        s.is("GRIP and FORCE aside there is one: 30, 14", x.halves(0, 0, 0), 2);
        s.is("a SPLIT one, too", split().halves(0, 0, 0), 2);
        for (int breadth = 1; breadth <= 24; breadth++) {
            for (int slit = 0; slit <= 9; slit++) {
                BladeBetweenThumbs y = new BladeBetweenThumbs();
                y.grows(breadth, 1, 0);
                y.comes(slit, 0);
                y.keep(0, 1, 3, 0);
                y.learns(0);
                int halves = y.halves(0, 0, 0);
                s.is("there is a right one for all, BREADTH " + breadth + ", SLIT " + slit,
                    halves >= 1 && halves <= 6 ? 1 : halves, 1);
            }
        }
        for (int[] n : NOBODY) {
            s.is("halves" + Arrays.toString(n), x.halves(n[0], n[1], n[2]), -1);
        }
        s.promise(20, "TUNE: in how many ways a note can be. -1.");
        s.is("GRIP is too small", x.ways(0, 61), 0);
        s.is("a SPLIT one can none", split().ways(0, 61), 0);
        int[] noThumbs = {-1, 1, LEAST, MOST};
        int[] noNote = {-1, 100, LEAST, MOST};
        for (int i = 0; i < 4; i++) {
            s.is("THUMBS " + noThumbs[i], x.ways(noThumbs[i], 60), -1);
            s.is("note " + noNote[i], x.ways(0, noNote[i]), -1);
        }
        s.is("no BLADES", Due.told("t060;k00;").ways(0, 60), 0);
        s.is("no BLOWS", Due.told("b01010;t060;").ways(0, 60), 0);
        s.promise(21, "TUNE of notes told as n1 times 10000, n2 times 100 and n3: all three (what 0), how many can at "
            + "all (1). -1.");
        int[] noNotes = {-1, 1000000, LEAST, MOST};
        for (int what = 0; what < 2; what++) {
            for (int i = 0; i < 4; i++) {
                s.is("notes " + noNotes[i], x.tune(0, noNotes[i], what), -1);
                s.is("THUMBS " + noThumbs[i], x.tune(noThumbs[i], 0, what), -1);
            }
            s.is("notes 0", x.tune(0, 0, what), 0);
            s.is("notes 999999", x.tune(0, 999999, what), 0);
        }
        int[] bad = {-1, 2, LEAST, MOST};
        for (int what : bad) {
            s.is("what " + what, x.tune(0, 0, what), -1);
        }
        s.is("a SPLIT one can none", split().tune(0, 616161, 1), 0);
    }

    private void promises22To24() {
        s.promise(22, "LASTS. -1, -3.");
        BladeBetweenThumbs x = split();
        int[][] bad = {{1, 0, 0}, {-1, 0, 0}, {LEAST, 0, 0}, {MOST, 0, 0}, {0, 1, 0}, {0, -1, 0}, {0, LEAST, 0},
            {0, MOST, 0}, {0, 0, -1}, {0, 0, 61}, {0, 0, LEAST}, {0, 0, MOST}};
        for (int[] n : bad) {
            s.is("lasts" + Arrays.toString(n), one().lasts(n[0], n[1], n[2]), -1);
            s.is("-1 ahead of -3, lasts" + Arrays.toString(n), x.lasts(n[0], n[1], n[2]), -1);
        }
        s.is("SPLIT, the least FORCE", x.lasts(0, 0, 0), -3);
        s.is("SPLIT, the greatest FORCE", x.lasts(0, 0, 60), -3);
        s.is("not SPLIT, the greatest FORCE", one().lasts(0, 0, 60), 1);
        s.promise(23, "BEST FORCE; -4. -1, -3.");
        for (int[] n : NOBODY) {
            s.is("bestForce" + Arrays.toString(n), one().bestForce(n[0], n[1], n[2]), -1);
            s.is("-1 ahead of -3, bestForce" + Arrays.toString(n), x.bestForce(n[0], n[1], n[2]), -1);
        }
        s.is("none", one().bestForce(0, 0, 0), -4);
        s.is("SPLIT", x.bestForce(0, 0, 0), -3);
        s.promise(24, "CLASH: how many (what 0), the first (1; -4). -1.");
        for (int what = 0; what < 2; what++) {
            for (int v : OUT_OF_60) {
                s.is("TIGHT " + v, x.clash(0, v, what), -1);
                s.is("BLOW " + (v == 61 ? 1 : v), x.clash(v == 61 ? 1 : v, 0, what), -1);
            }
            s.is("none, the least TIGHT", x.clash(0, 0, what), what == 0 ? 0 : -4);
            s.is("none, the greatest TIGHT", x.clash(0, 60, what), what == 0 ? 0 : -4);
        }
        int[] out = {-1, 2, LEAST, MOST};
        for (int what : out) {
            s.is("what " + what, x.clash(0, 0, what), -1);
        }
        x.grows(7, 1, 0);
        s.is("a SPLIT one and another", x.clash(0, 0, 1), 1);
    }
}
