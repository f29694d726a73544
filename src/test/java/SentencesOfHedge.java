import java.util.Arrays;

/** Terms, I, and promises 1 to 13, sentence by sentence: the hedge as told. */
final class SentencesOfHedge {
    private static final int LEAST = Integer.MIN_VALUE;
    private static final int MOST = Integer.MAX_VALUE;
    private final Sentences s;

    SentencesOfHedge(Sentences s) {
        this.s = s;
    }

    void all() {
        calls();
        blades();
        thumbs();
        blows();
        low();
        high();
        softest();
        hardest();
        sounding();
        pitchOfTerms();
        wears();
        tryOfTerms();
        text();
        faultsOfKind1();
        faultsOfKind2();
        allOrNothing();
        promises1To3();
        promises4To6();
        promises7To9();
        promises10And11();
        promises12And13();
    }

    private static String two(int n) {
        return (n < 10 ? "0" : "") + n;
    }

    private static BladeBetweenThumbs hedge(int kind, int figure, int breadth, int wet, int slit) {
        return Due.told("b" + two(breadth) + "24" + wet + ";t" + slit + "60;k" + kind + figure + ";");
    }

    /** LOW, HIGH, SOFTEST or HARDEST (what 0 .. 3). */
    private static int span(int kind, int figure, int breadth, int wet, int slit, int what) {
        return hedge(kind, figure, breadth, wet, slit).span(0, 0, 0, what);
    }

    private static int wearBy(int kind, int figure, int force) {
        BladeBetweenThumbs x = hedge(kind, figure, 1, 9, 0);
        x.tries(0, 0, 0, 60, force);
        return x.blade(0, 3);
    }

    private static int told(BladeBetweenThumbs x, String text) {
        Due.text(x, 0, text);
        return x.hedge(0);
    }

    private static int told(String text) {
        return told(new BladeBetweenThumbs(), text);
    }

    private void calls() {
        s.says("An object is used for at most 512 calls after it has been made; what later calls answer is free.");
        BladeBetweenThumbs x = new BladeBetweenThumbs();
        x.grows(1, 24, 9);
        x.comes(0, 60);
        x.keep(0, 1, 2, 0);
        x.learns(0);
        int sounding = 0;
        for (int call = 5; call < 511; call += 2) {
            sounding += x.walks(1, call, 0) >= 0 && x.sounds(0, 0, 0, 1, 6) == 1 ? 1 : 0;
        }
        s.is("calls 5 to 510", sounding, 253);
        s.is("the last but one of 512", x.count(4), 0);
        s.is("the last of 512", x.tries(0, 0, 0, 1, 6), 1);
        BladeBetweenThumbs y = Due.told("b01249;t060;k60;");
        for (int call = 0; call < 480; call++) {
            y.tries(0, 0, 0, 1, 3);
        }
        s.is("after many TRIES that wear nothing", y.tries(0, 0, 0, 1, 3), 1);
    }

    // ---- Terms, I

    private void blades() {
        s.says("I. BLADES 0 .. 5 as they come (6 at most):");
        BladeBetweenThumbs x = new BladeBetweenThumbs();
        for (int b = 0; b < 6; b++) {
            s.is("not there yet: " + b, x.blade(b, 0), -1);
            s.is("the next number", x.grows(b + 1, 1, 0), b);
            s.is("there now: " + b, x.blade(b, 0), b + 1);
        }
        s.is("a seventh", x.grows(7, 1, 0), -2);
        s.is("blade 6", x.blade(6, 0), -1);
        s.is("blade -1", x.blade(-1, 0), -1);
        s.is("six are there", x.count(0), 6);
        s.says("a BREADTH (1 .. 24), a LENGTH (1 .. 24), WET (0 .. 9), WEAR (0 at first).");
        BladeBetweenThumbs y = new BladeBetweenThumbs();
        int[][] out = {{0, 1, 0}, {25, 1, 0}, {1, 0, 0}, {1, 25, 0}, {1, 1, -1}, {1, 1, 10}};
        for (int[] o : out) {
            s.is("grows(" + o[0] + ", " + o[1] + ", " + o[2] + ")", y.grows(o[0], o[1], o[2]), -1);
        }
        s.is("all the least", y.grows(1, 1, 0), 0);
        s.is("all the greatest", y.grows(24, 24, 9), 1);
        int[][] want = {{1, 1, 0, 0}, {24, 24, 9, 0}};
        for (int what = 0; what < 4; what++) {
            s.is("of the least, " + what, y.blade(0, what), want[0][what]);
            s.is("of the greatest, " + what, y.blade(1, what), want[1][what]);
        }
        BladeBetweenThumbs z = Due.told("t060;k49;");
        z.image();
        z.grows(1, 1, 0);
        z.tries(0, 0, 0, 0, 60);
        z.restore();
        z.grows(1, 1, 0);
        s.is("WEAR where a worn one was once", z.blade(0, 3), 0);
    }

    private void thumbs() {
        s.says("THUMBS 0 .. 3 as they come (4 at most): a SLIT (0 .. 9), a GRIP (0 .. 60: the most TIGHT they can).");
        BladeBetweenThumbs x = new BladeBetweenThumbs();
        int[][] out = {{-1, 0}, {10, 0}, {0, -1}, {0, 61}};
        for (int[] o : out) {
            s.is("comes(" + o[0] + ", " + o[1] + ")", x.comes(o[0], o[1]), -1);
        }
        int[][] in = {{0, 0}, {9, 60}, {0, 60}, {9, 0}};
        for (int t = 0; t < 4; t++) {
            s.is("not there yet: " + t, x.thumbs(t, 0), -1);
            s.is("the next number", x.comes(in[t][0], in[t][1]), t);
            s.is("SLIT", x.thumbs(t, 0), in[t][0]);
            s.is("GRIP", x.thumbs(t, 1), in[t][1]);
        }
        s.is("a fifth", x.comes(0, 0), -2);
        s.is("thumbs 4", x.thumbs(4, 0), -1);
        s.is("thumbs -1", x.thumbs(-1, 0), -1);
        BladeBetweenThumbs y = Due.told("b01103;t008;k20;");
        s.is("at GRIP", y.sounds(0, 0, 0, 8, 6), 1);
        s.is("above GRIP", y.sounds(0, 0, 0, 9, 6), 0);
    }

    private void blows() {
        s.says("BLOWS 0 .. 5 as they come (6 at most), of KINDS, each with a FIGURE (0 .. 9): 0 BLOW; 1 EMPTY under "
            + "BLOW; 2 SOUNDING under BLOW; 3 SHRIEKING under SOUNDING; 4 SPLITTING under BLOW; 5 CUPPED under "
            + "SOUNDING; 6 SOFT under CUPPED; 7 SLIPPED under EMPTY.");
        for (int kind = 0; kind < 8; kind++) {
            BladeBetweenThumbs x = new BladeBetweenThumbs();
            for (int k = 0; k < 6; k++) {
                int figure = k == 5 ? 9 : k;
                s.is("not there yet: " + k, x.blow(k, 0), -1);
                x.keep(0, 1, kind, figure);
                s.is("the next number", x.learns(0), k);
                s.is("KIND", x.blow(k, 0), kind);
                s.is("FIGURE", x.blow(k, 1), figure);
            }
            s.is("a seventh", x.learns(0), -2);
            s.is("blow 6", x.blow(6, 0), -1);
            s.is("blow -1", x.blow(-1, 0), -1);
            s.is("FIGURE -1", x.keep(0, 1, kind, -1), -1);
            s.is("FIGURE 10", x.keep(0, 1, kind, 10), -1);
        }
        s.is("KIND -1", new BladeBetweenThumbs().keep(0, 1, -1, 0), -1);
        s.is("KIND 8", new BladeBetweenThumbs().keep(0, 1, 8, 0), -1);
    }

    private void low() {
        s.says("LOW (the least TIGHT): BLOW BREADTH and SLIT;");
        s.is("1 and 0", span(0, 5, 1, 0, 0, 0), 1);
        s.is("24 and 9", span(0, 5, 24, 0, 9, 0), 33);
        s.says("SOUNDING 2 less, 0 at least;");
        s.is("1 and 0: not -1", span(2, 5, 1, 0, 0, 0), 0);
        s.is("1 and 1", span(2, 5, 1, 0, 1, 0), 0);
        s.is("2 and 0", span(2, 5, 2, 0, 0, 0), 0);
        s.is("2 and 1", span(2, 5, 2, 0, 1, 0), 1);
        s.is("24 and 9", span(2, 5, 24, 0, 9, 0), 31);
        s.says("SHRIEKING 10 more than a SOUNDING's;");
        s.is("1 and 0: 10 more than 0", span(3, 5, 1, 0, 0, 0), 10);
        s.is("2 and 1", span(3, 5, 2, 0, 1, 0), 11);
        s.is("24 and 9", span(3, 5, 24, 0, 9, 0), 41);
        s.says("CUPPED as SOUNDING; SOFT 1 more than a CUPPED's;");
        s.is("CUPPED, 1 and 0", span(5, 5, 1, 0, 0, 0), 0);
        s.is("CUPPED, 24 and 9", span(5, 5, 24, 0, 9, 0), 31);
        s.is("SOFT, 1 and 0", span(6, 5, 1, 0, 0, 0), 1);
        s.is("SOFT, 24 and 9", span(6, 5, 24, 0, 9, 0), 32);
        s.says("others as what they are under.");
        int[] asBlow = {1, 4, 7};
        for (int kind : asBlow) {
            s.is("LOW of kind " + kind, span(kind, 5, 1, 0, 0, 0), 1);
            s.is("the greatest LOW of kind " + kind, span(kind, 5, 24, 0, 9, 0), 33);
        }
        int[] softAsBlow = {2, 4, 5};
        for (int kind : softAsBlow) {
            s.is("SOFTEST of kind " + kind, span(kind, 5, 1, 0, 0, 2), 6);
            s.is("the greatest SOFTEST of kind " + kind, span(kind, 5, 1, 0, 9, 2), 24);
        }
        s.is("SOFTEST of SLIPPED", span(7, 5, 1, 0, 9, 2), 61);
        int[] pitchAsBlow = {1, 2, 7};
        for (int kind : pitchAsBlow) {
            s.is("PITCH of kind " + kind, hedge(kind, 5, 24, 0, 0).pitch(0, 0, 0, 9), 36);
        }
        s.is("WEARS of EMPTY, least", wearBy(1, 9, 9), 0);
        s.is("WEARS of EMPTY, greatest", wearBy(1, 9, 60), 6);
        s.is("WEARS of CUPPED, least", wearBy(5, 9, 9), 1);
        s.is("WEARS of CUPPED, greatest", wearBy(5, 9, 60), 7);
    }

    private void high() {
        s.says("HIGH (the greatest): its LOW and 8, and WET;");
        s.is("dry", span(0, 5, 1, 0, 0, 1), 9);
        s.is("wet", span(0, 5, 1, 9, 0, 1), 18);
        s.is("the greatest of all", span(0, 5, 24, 9, 9, 1), 50);
        s.is("its own LOW, 0", span(2, 5, 1, 0, 0, 1), 8);
        s.is("its own LOW, 1", span(6, 5, 1, 0, 0, 1), 9);
        s.says("SHRIEKING half as much above its LOW, cut; others as BLOW.");
        s.is("half of 8", span(3, 5, 1, 0, 0, 1), 14);
        s.is("half of 9, cut", span(3, 5, 1, 1, 0, 1), 14);
        s.is("half of 10", span(3, 5, 1, 2, 0, 1), 15);
        s.is("half of 17, cut", span(3, 5, 1, 9, 0, 1), 18);
        s.is("the greatest", span(3, 5, 24, 9, 9, 1), 49);
        int[] asBlow = {1, 2, 4, 5, 6, 7};
        for (int kind : asBlow) {
            s.is("dry, kind " + kind, span(kind, 5, 9, 0, 0, 1) - span(kind, 5, 9, 0, 0, 0), 8);
            s.is("wet, kind " + kind, span(kind, 5, 9, 9, 0, 1) - span(kind, 5, 9, 9, 0, 0), 17);
        }
    }

    private void softest() {
        s.says("SOFTEST (the least FORCE): BLOW 6 and twice SLIT;");
        s.is("SLIT 0", span(0, 5, 1, 0, 0, 2), 6);
        s.is("SLIT 9", span(0, 5, 1, 0, 9, 2), 24);
        s.says("SHRIEKING twice a SOUNDING's;");
        s.is("SOFTEST, SLIT 0", span(3, 5, 1, 0, 0, 2), 12);
        s.is("SOFTEST, SLIT 9", span(3, 5, 1, 0, 9, 2), 48);
        s.is("WEARS, FORCE 9", wearBy(3, 9, 9), 2);
        s.is("WEARS, FORCE 60", wearBy(3, 9, 60), 14);
        s.says("SOFT half of a CUPPED's, cut;");
        s.is("SOFTEST, SLIT 0", span(6, 5, 1, 0, 0, 2), 3);
        s.is("SOFTEST, SLIT 1", span(6, 5, 1, 0, 1, 2), 4);
        s.is("SOFTEST, SLIT 9", span(6, 5, 1, 0, 9, 2), 12);
        s.says("EMPTY 61 (so never);");
        BladeBetweenThumbs x = hedge(1, 5, 6, 3, 0);
        s.is("SLIT 0", x.span(0, 0, 0, 2), 61);
        s.is("SLIT 9", span(1, 5, 1, 0, 9, 2), 61);
        for (int force = 0; force <= 60; force++) {
            s.is("FORCE " + force, x.sounds(0, 0, 0, 10, force), 0);
        }
    }

    private void hardest() {
        s.says("HARDEST: its SOFTEST and 20;");
        s.is("SLIT 0", span(0, 5, 1, 0, 0, 3), 26);
        s.is("SLIT 9", span(0, 5, 1, 0, 9, 3), 44);
        s.is("EMPTY", span(1, 5, 1, 0, 0, 3), 81);
        s.is("SHRIEKING, above 60", span(3, 5, 1, 0, 9, 3), 68);
        s.says("SPLITTING FIGURE less;");
        s.is("FIGURE 0", span(4, 0, 1, 0, 0, 3), 26);
        s.is("FIGURE 9", span(4, 9, 1, 0, 0, 3), 17);
        s.is("FIGURE 9, SLIT 9", span(4, 9, 1, 0, 9, 3), 35);
        s.says("SOFT half of that above its SOFTEST, cut; others as BLOW.");
        s.is("SLIT 0", span(6, 9, 1, 0, 0, 3), 13);
        s.is("SLIT 9", span(6, 9, 1, 0, 9, 3), 22);
        int[] asBlow = {1, 2, 3, 5, 7};
        for (int kind : asBlow) {
            s.is("kind " + kind, span(kind, 9, 1, 0, 4, 3) - span(kind, 9, 1, 0, 4, 2), 20);
        }
    }

    private void sounding() {
        s.says("A blow by a BLADE and THUMBS, TIGHT (0 .. 60) and FORCE (0 .. 60), SOUNDS, if TIGHT is LOW .. HIGH, no "
            + "more than GRIP, and FORCE SOFTEST .. HARDEST.");
        // TIGHT 11 .. 22, FORCE 16 .. 36.
        BladeBetweenThumbs x = Due.told("b06103;t560;t521;t511;t510;k00;");
        int[][] calls = {{0, 11, 16, 1}, {0, 10, 16, 0}, {0, 22, 16, 1}, {0, 23, 16, 0}, {0, 11, 15, 0}, {0, 22, 36, 1},
            {0, 22, 37, 0}, {1, 21, 36, 1}, {1, 22, 36, 0}, {2, 11, 16, 1}, {2, 12, 16, 0}, {3, 10, 16, 0},
            {3, 11, 16, 0}};
        for (int[] c : calls) {
            s.is("THUMBS " + c[0] + ", TIGHT " + c[1] + ", FORCE " + c[2], x.sounds(0, c[0], 0, c[1], c[2]), c[3]);
        }
        s.is("TIGHT -1", x.sounds(0, 0, 0, -1, 16), -1);
        s.is("TIGHT 61", x.sounds(0, 0, 0, 61, 16), -1);
        s.is("FORCE -1", x.sounds(0, 0, 0, 11, -1), -1);
        s.is("FORCE 61", x.sounds(0, 0, 0, 11, 61), -1);
        s.is("TIGHT 60", x.sounds(0, 0, 0, 60, 16), 0);
        s.is("FORCE 0", x.sounds(0, 0, 0, 11, 0), 0);
        s.is("TIGHT 0 can SOUND", hedge(2, 0, 1, 0, 0).sounds(0, 0, 0, 0, 6), 1);
        s.is("FORCE 60 can SOUND", hedge(3, 0, 1, 0, 9).sounds(0, 0, 0, 18, 60), 1);
    }

    private void pitchOfTerms() {
        s.says("PITCH (with a CUP, 0 .. 9): BLOW 60 less BREADTH, and TIGHT;");
        s.is("lowest", hedge(0, 9, 24, 0, 0).pitch(0, 0, 0, 0), 36);
        s.is("highest, above 99 too", hedge(0, 9, 1, 0, 0).pitch(0, 0, 60, 0), 119);
        s.is("CUP 9 is nothing to it", hedge(0, 9, 24, 0, 0).pitch(0, 0, 0, 9), 36);
        s.is("CUP -1", hedge(0, 9, 24, 0, 0).pitch(0, 0, 0, -1), 1000000001);
        s.is("CUP 10", hedge(0, 9, 24, 0, 0).pitch(0, 0, 0, 10), 1000000001);
        s.says("SHRIEKING a SOUNDING's and 12;");
        s.is("lowest", hedge(3, 9, 24, 0, 0).pitch(0, 0, 0, 9), 48);
        s.is("highest", hedge(3, 9, 1, 0, 0).pitch(0, 0, 60, 0), 131);
        s.says("CUPPED a SOUNDING's less CUP; SOFT as CUPPED;");
        for (int kind = 5; kind <= 6; kind++) {
            s.is("CUP 0, kind " + kind, hedge(kind, 9, 24, 0, 0).pitch(0, 0, 0, 0), 36);
            s.is("CUP 9, kind " + kind, hedge(kind, 9, 24, 0, 0).pitch(0, 0, 0, 9), 27);
            s.is("highest, kind " + kind, hedge(kind, 9, 1, 0, 0).pitch(0, 0, 60, 9), 110);
        }
        s.says("SPLITTING FIGURE more;");
        s.is("PITCH, FIGURE 0", hedge(4, 0, 24, 0, 0).pitch(0, 0, 0, 9), 36);
        s.is("PITCH, FIGURE 9", hedge(4, 9, 24, 0, 0).pitch(0, 0, 0, 9), 45);
        s.is("WEARS, FIGURE 0", wearBy(4, 0, 60), 6);
        s.is("WEARS, FIGURE 9", wearBy(4, 9, 60), 15);
        s.is("WEARS, FIGURE 9, FORCE 0", wearBy(4, 9, 0), 9);
    }

    private void wears() {
        s.says("WEARS (by FORCE): BLOW FORCE by 10, cut;");
        int[][] forces = {{0, 0}, {9, 0}, {10, 1}, {19, 1}, {20, 2}, {59, 5}, {60, 6}};
        for (int[] f : forces) {
            s.is("FORCE " + f[0], wearBy(0, 9, f[0]), f[1]);
        }
        s.says("SOUNDING 1 more;");
        s.is("FORCE 0", wearBy(2, 9, 0), 1);
        s.is("FORCE 60", wearBy(2, 9, 60), 7);
        s.says("SOFT 0;");
        s.is("FORCE 0", wearBy(6, 9, 0), 0);
        s.is("FORCE 60", wearBy(6, 9, 60), 0);
        s.says("SLIPPED 1 more than an EMPTY's;");
        s.is("FORCE 0", wearBy(7, 9, 0), 1);
        s.is("FORCE 60", wearBy(7, 9, 60), 7);
    }

    private void tryOfTerms() {
        s.says("A TRY: the BLADE's WEAR is so much more, whether it SOUNDS or not;");
        BladeBetweenThumbs x = Due.told("b01249;b01249;t060;k00;k10;");
        s.is("it SOUNDS", x.tries(0, 0, 0, 1, 20), 1);
        s.is("WEAR", x.blade(0, 3), 2);
        s.is("it does not", x.tries(0, 0, 0, 60, 20), 0);
        s.is("WEAR", x.blade(0, 3), 4);
        s.is("an EMPTY one never does", x.tries(0, 0, 1, 1, 60), 0);
        s.is("WEAR", x.blade(0, 3), 10);
        s.is("another BLADE's WEAR", x.blade(1, 3), 0);
        s.says("it is SPLIT, if WEAR is above LENGTH and WET together;");
        BladeBetweenThumbs y = Due.told("b01010;t060;k00;");
        s.is("WEAR 1 of 1", y.tries(0, 0, 0, 60, 10), 0);
        s.is("not SPLIT", y.blade(0, 4), 0);
        s.is("WEAR 2 of 1", y.tries(0, 0, 0, 60, 10), 2);
        s.is("SPLIT", y.blade(0, 4), 1);
        y.wets(0, 1);
        s.is("WEAR 2 of 2", y.blade(0, 4), 0);
        BladeBetweenThumbs z = Due.told("b01249;t060;k00;k49;");
        z.tries(0, 0, 1, 0, 60);
        z.tries(0, 0, 1, 0, 60);
        s.is("WEAR 33 of 33", z.tries(0, 0, 0, 0, 39), 0);
        s.is("WEAR", z.blade(0, 3), 33);
        s.is("WEAR 34 of 33", z.tries(0, 0, 0, 0, 10), 2);
        s.says("a SPLIT one is blown no more.");
        s.is("refused", z.tries(0, 0, 0, 0, 10), -3);
        s.is("even without WEAR", z.tries(0, 0, 0, 0, 0), -3);
        s.is("its WEAR stays", z.blade(0, 3), 34);
    }

    private void text() {
        s.says("THE TEXT of a HEDGE stands in a ROW of bytes on a SHELF:");
        BladeBetweenThumbs x = new BladeBetweenThumbs();
        for (int d = 0; d < 8; d++) {
            Due.text(x, d, d < 6 ? "k00;" : "t000;");
            s.is("on SHELF " + d, x.hedge(d), 1);
        }
        Due.numbers(x, 0, 1, 'k', '0', '0', ';');
        s.is("shorts", x.hedge(0), -12);
        Due.numbers(x, 0, 2, 'k', '0', '0', ';');
        s.is("ints", x.hedge(0), -12);
        s.says("STATEMENTS, each with \";\" behind, one at least:");
        s.is("none", told(""), -1000);
        s.is("none, but its sign", told(";"), -1000);
        s.is("one", told("k00;"), 1);
        s.is("one without", told("k00"), -1003);
        s.is("two, the second without", told("k00;k00"), -1007);
        s.is("one sign too many", told("k00;;"), -1004);
        s.is("another sign", told("k00:"), -1003);
        s.says("\"b\" BREADTH, LENGTH (2 digits each), WET (a digit): a BLADE more;");
        s.is("a digit too few", told("b0101;"), -1005);
        s.is("a digit too many", told("b010100;"), -1006);
        s.is("the least, the greatest", told("b01010;b24249;"), 2);
        s.says("\"t\" SLIT (a digit), GRIP (2 digits): THUMBS more;");
        s.is("a digit too few", told("t06;"), -1003);
        s.is("a digit too many", told("t0600;"), -1004);
        s.is("the least, the greatest", told("t000;t960;"), 2);
        s.says("\"k\" KIND, FIGURE (a digit each): a BLOW more;");
        s.is("a digit too few", told("k0;"), -1002);
        s.is("a digit too many", told("k000;"), -1003);
        s.is("the least, the greatest", told("k00;k79;"), 2);
        s.says("\"y\" a BLADE, THUMBS, a BLOW (a digit each), TIGHT, FORCE (2 digits each): a TRY.");
        String whole = "b01010;t060;k60;";
        s.is("a digit too few", told(whole + "y000000;"), -1023);
        s.is("a digit too many", told(whole + "y00000000;"), -1024);
        s.is("the least, the greatest", told(whole + "y0000000;y0006060;"), 5);
        fullText();
    }

    private void fullText() {
        String full = "b01010;".repeat(5) + "b24249;" + "t000;".repeat(3) + "t960;" + "k00;".repeat(5) + "k79;";
        BladeBetweenThumbs y = new BladeBetweenThumbs();
        s.is("all the room there is", told(y, full), 16);
        s.is("a TRY by the last ones", told(y, "y5356060;"), 1);
        s.is("its WEAR", y.blade(5, 3), 7);
        s.is("two TRIES more, one by another", told(y, "y5350019;y5300060;y0000010;"), 3);
        s.is("its WEAR: 7, 2 and 6", y.blade(5, 3), 15);
        s.is("the WEAR of the other", y.blade(0, 3), 1);
    }

    private void faultsOfKind1() {
        s.says("FAULT: kind 1 the place of the first byte with which no HEDGE can go on (the end, if something lacks): "
            + "-1000 less the place;");
        String text = "b24249;t960;k79;y0006060;";
        for (int n = 0; n <= text.length(); n++) {
            String start = text.substring(0, n);
            int statements = start.length() - start.replace(";", "").length();
            s.is("'" + start + "'", told(start), start.endsWith(";") ? statements : -1000 - n);
            char[] signs = text.toCharArray();
            for (int i = 0; n < text.length() && i < 4; i++) {
                signs[n] = new char[] {' ', '/', ':', 'B'}[i];
                s.is("'" + new String(signs) + "'", told(new String(signs)), -1000 - n);
            }
        }
        String hundred = "b24249;b24249;b24249;b24249;t960;t960;t960;k79;k79;k79;y0006060;y1006060;y2006060;y3006060;";
        s.is("a ROW of 100 bytes", told(hundred + "y3216060;"), 15);
        s.is("its last byte", told(hundred + "y3216060:"), -1099);
        s.is("a ';' too early", told(hundred + "y321;k00;"), -1095);
        BladeBetweenThumbs x = new BladeBetweenThumbs();
        Due.text(x, 0, hundred + "y3216060;");
        x.put(0, 91, ';');
        s.is("a ';' where a STATEMENT begins", x.hedge(0), -1091);
        Due.text(x, 0, "k00;".repeat(24) + "t060");
        s.is("the end behind a full ROW", x.hedge(0), -1100);
        Due.numbers(x, 0, 0, 'k', '0', -128, ';');
        s.is("the least byte", x.hedge(0), -1002);
        Due.numbers(x, 0, 0, 0);
        s.is("a byte 0", x.hedge(0), -1000);
    }

    private void faultsOfKind2() {
        s.says("else kind 2 the place of the letter of the first STATEMENT that is not as it must be (a number out of "
            + "range, no such one, a SPLIT BLADE, no room): -2000 less the place.");
        String[] wrong = {"b00010;", "b25010;", "b99010;", "b01000;", "b01250;", "t061;", "t099;", "k80;", "k90;"};
        for (String w : wrong) {
            s.is("out of range: " + w, told(w), -2000);
            s.is("out of range, later: " + w, told("t000;" + w + w), -2005);
        }
        String whole = "b01010;t060;k00;";
        String[] wrongTries = {"y1000000;", "y9000000;", "y0100000;", "y0900000;", "y0010000;", "y0090000;",
            "y0006100;", "y0009900;", "y0000061;", "y0000099;"};
        for (String w : wrongTries) {
            s.is("no such one, or out of range: " + w, told(whole + w), -2016);
        }
        s.is("it comes too late", told("t060;k00;y0000000;b01010;"), -2009);
        s.is("SPLIT in the text", told(whole + "y0000060;y0000000;"), -2025);
        s.is("SPLIT, the last STATEMENT", told(whole + "y0000060;"), 4);
        BladeBetweenThumbs y = Due.told(whole + "y0000060;");
        s.is("SPLIT ahead of the text", told(y, "k00;y0000000;"), -2004);
        s.is("no room for a seventh BLADE", told("b01010;".repeat(7)), -2042);
        s.is("no room for fifth THUMBS", told("t000;".repeat(5)), -2020);
        s.is("no room for a seventh BLOW", told("k00;".repeat(7)), -2024);
        s.is("kind 1 far behind is told first", told("k80;k00"), -1007);
    }

    private void allOrNothing() {
        String whole = "b01010;t060;k00;";
        s.says("Without FAULT all of it comes, with one nothing.");
        BladeBetweenThumbs z = new BladeBetweenThumbs();
        s.is("with one", told(z, whole + "y0000010;k80;"), -2025);
        s.is("no BLADE", z.count(0), 0);
        s.is("no THUMBS", z.count(1), 0);
        s.is("no BLOW", z.count(2), 0);
        s.is("kind 1", told(z, whole + "k"), -1017);
        s.is("no BLADE", z.count(0), 0);
        s.is("without", told(z, whole + "y0000010;"), 4);
        s.is("a BLADE", z.count(0), 1);
        s.is("THUMBS", z.count(1), 1);
        s.is("a BLOW", z.count(2), 1);
        s.is("WEAR", z.count(4), 1);
        s.is("a TRY and a FAULT", told(z, "y0000000;y0000090;"), -2009);
        s.is("WEAR stays", z.count(4), 1);
    }

    // ---- promises 1 to 13

    private void promises1To3() {
        s.promise(1, "No BLADES.");
        BladeBetweenThumbs x = new BladeBetweenThumbs();
        for (int what = 0; what < 6; what++) {
            s.is("count(" + what + ")", x.count(what), 0);
        }
        s.promise(2, "The text in SHELF d: how many STATEMENTS; the FAULT. -1, -11, -12 (no ROW of bytes).");
        int[] noShelf = {-1, 8, LEAST, MOST};
        for (int d : noShelf) {
            s.is("SHELF " + d, x.hedge(d), -1);
        }
        s.is("nothing", x.hedge(7), -11);
        for (int kind = 0; kind < 8; kind++) {
            x.keep(7, 1, kind, 1);
            s.is("a BLOW of kind " + kind, x.hedge(7), -12);
        }
        x.row(7, 1, 0);
        s.is("shorts ahead of a FAULT", x.hedge(7), -12);
        s.is("one STATEMENT", told("t000;"), 1);
        s.is("12 STATEMENTS", told("b24249;t060;k00;" + "y0000000;".repeat(9)), 12);
        s.promise(3, "Of a BLADE: BREADTH (what 0), LENGTH (1), WET (2), WEAR (3), 1 it is SPLIT (4). -1.");
        BladeBetweenThumbs y = Due.told("b02031;t060;k49;k00;");
        y.tries(0, 0, 1, 0, 49);
        int[] want = {2, 3, 1, 4, 0};
        for (int what = 0; what < 5; what++) {
            s.is("what " + what, y.blade(0, what), want[what]);
        }
        y.tries(0, 0, 1, 0, 10);
        s.is("SPLIT", y.blade(0, 4), 1);
        refusedBlade(y);
    }

    private void refusedBlade(BladeBetweenThumbs y) {
        int[][] out = {{0, -1}, {0, 5}, {0, LEAST}, {0, MOST}, {1, 0}, {-1, 0}, {LEAST, 0}, {MOST, 0}, {-1, -1}};
        for (int[] o : out) {
            s.is("blade(" + o[0] + ", " + o[1] + ")", y.blade(o[0], o[1]), -1);
        }
    }

    private void promises4To6() {
        s.promise(4, "Of THUMBS: SLIT (what 0), GRIP (1). -1.");
        BladeBetweenThumbs x = Due.told("t941;k39;");
        s.is("what 0", x.thumbs(0, 0), 9);
        s.is("what 1", x.thumbs(0, 1), 41);
        int[][] out = {{0, -1}, {0, 2}, {0, LEAST}, {0, MOST}, {1, 0}, {-1, 0}, {LEAST, 0}, {MOST, 0}};
        for (int[] o : out) {
            s.is("thumbs(" + o[0] + ", " + o[1] + ")", x.thumbs(o[0], o[1]), -1);
        }
        s.promise(5, "Of a BLOW: KIND (what 0), FIGURE (1), WEARS with FORCE 30 (2). -1.");
        int[] wears = {3, 3, 4, 8, 12, 4, 0, 4};
        for (int kind = 0; kind < 8; kind++) {
            BladeBetweenThumbs y = Due.told("k" + kind + "9;");
            s.is("KIND", y.blow(0, 0), kind);
            s.is("FIGURE", y.blow(0, 1), 9);
            s.is("WEARS", y.blow(0, 2), wears[kind]);
        }
        int[][] none = {{0, -1}, {0, 3}, {0, LEAST}, {0, MOST}, {1, 0}, {-1, 0}, {LEAST, 0}, {MOST, 0}};
        for (int[] o : none) {
            s.is("blow(" + o[0] + ", " + o[1] + ")", x.blow(o[0], o[1]), -1);
        }
        s.promise(6, "A BLADE more: its number. -1, -2.");
        BladeBetweenThumbs z = new BladeBetweenThumbs();
        for (int b = 0; b < 6; b++) {
            s.is("its number", z.grows(1, 1, 0), b);
        }
        s.is("full", z.grows(1, 1, 0), -2);
        int[][] far = {{0, 1, 0}, {25, 1, 0}, {1, 0, 0}, {1, 25, 0}, {1, 1, -1}, {1, 1, 10}, {LEAST, 1, 0},
            {1, MOST, 0}};
        for (int[] f : far) {
            s.is("full, and out of range", z.grows(f[0], f[1], f[2]), -1);
        }
        s.is("nothing changes", z.count(0), 6);
    }

    private void promises7To9() {
        s.promise(7, "The one on SHELF d is a BLOW more: its number. -1, -11, -12 (a ROW), -2.");
        BladeBetweenThumbs x = new BladeBetweenThumbs();
        x.keep(0, 1, 6, 9);
        for (int sort = 0; sort < 3; sort++) {
            x.row(sort + 1, sort, sort);
        }
        for (int k = 0; k <= 6; k++) {
            s.is("SHELF -1", x.learns(-1), -1);
            s.is("SHELF 8", x.learns(8), -1);
            s.is("nothing", x.learns(7), -11);
            s.is("a ROW of bytes", x.learns(1), -12);
            s.is("a ROW of shorts", x.learns(2), -12);
            s.is("a ROW of ints", x.learns(3), -12);
            s.is("its number; full behind the sixth", x.learns(0), k < 6 ? k : -2);
        }
        s.is("six are there", x.count(2), 6);
        s.promise(8, "THUMBS more: their number. -1, -2.");
        BladeBetweenThumbs y = new BladeBetweenThumbs();
        for (int t = 0; t < 4; t++) {
            s.is("their number", y.comes(0, 0), t);
        }
        s.is("full", y.comes(0, 0), -2);
        int[][] out = {{-1, 0}, {10, 0}, {0, -1}, {0, 61}, {LEAST, 0}, {0, MOST}};
        for (int[] o : out) {
            s.is("full, and out of range", y.comes(o[0], o[1]), -1);
        }
        s.is("nothing changes", y.count(1), 4);
        s.promise(9, "WET becomes v: what it was. -1.");
        BladeBetweenThumbs z = Due.told("b01015;");
        s.is("the least", z.wets(0, 0), 5);
        s.is("the greatest", z.wets(0, 9), 0);
        int[][] bad = {{0, -1}, {0, 10}, {0, LEAST}, {0, MOST}, {1, 0}, {-1, 0}};
        for (int[] o : bad) {
            s.is("wets(" + o[0] + ", " + o[1] + ")", z.wets(o[0], o[1]), -1);
        }
        s.is("nothing changes", z.wets(0, 9), 9);
    }

    private void promises10And11() {
        s.promise(10, "LOW (what 0), HIGH (1), SOFTEST (2), HARDEST (3). -1.");
        BladeBetweenThumbs x = Due.told("b06103;t518;k47;");
        int[] want = {11, 22, 16, 29};
        for (int what = 0; what < 4; what++) {
            s.is("what " + what + ", GRIP and 60 aside", x.span(0, 0, 0, what), want[what]);
        }
        int[][] out = {{0, 0, 0, -1}, {0, 0, 0, 4}, {0, 0, 0, LEAST}, {0, 0, 0, MOST}, {1, 0, 0, 0}, {-1, 0, 0, 0},
            {0, 1, 0, 0}, {0, -1, 0, 0}, {0, 0, 1, 0}, {0, 0, -1, 0}};
        for (int[] o : out) {
            s.is("span" + Arrays.toString(o), x.span(o[0], o[1], o[2], o[3]), -1);
        }
        BladeBetweenThumbs many = Due.told("b06103;b12220;b03101;t530;t240;k00;k20;k30;k49;");
        s.is("the last of all, LOW", many.span(2, 1, 3, 0), 5);
        s.is("the last of all, HIGH", many.span(2, 1, 3, 1), 14);
        s.is("the last of all, SOFTEST", many.span(2, 1, 3, 2), 10);
        s.is("the last of all, HARDEST", many.span(2, 1, 3, 3), 21);
        s.is("the first BLADE, the last THUMBS and BLOW", many.span(0, 1, 3, 0), 8);
        s.is("the last BLADE, the first THUMBS, the last BLOW", many.span(2, 0, 3, 0), 8);
        s.is("the last BLADE and THUMBS, a BLOW between", many.span(2, 1, 2, 0), 13);
        s.promise(11, "Whether it SOUNDS: 1, 0. -1.");
        s.is("it SOUNDS", x.sounds(0, 0, 0, 18, 29), 1);
        s.is("beyond GRIP", x.sounds(0, 0, 0, 19, 29), 0);
        int[][] bad = {{0, 0, 0, -1, 0}, {0, 0, 0, 61, 0}, {0, 0, 0, 0, -1}, {0, 0, 0, 0, 61}, {1, 0, 0, 0, 0},
            {-1, 0, 0, 0, 0}, {0, 1, 0, 0, 0}, {0, -1, 0, 0, 0}, {0, 0, 1, 0, 0}, {0, 0, -1, 0, 0}};
        for (int[] o : bad) {
            s.is("sounds" + Arrays.toString(o), x.sounds(o[0], o[1], o[2], o[3], o[4]), -1);
        }
        BladeBetweenThumbs y = Due.told("b01010;t060;k00;y0000060;");
        s.is("a SPLIT one is not asked for its WEAR", y.sounds(0, 0, 0, 1, 6), 1);
    }

    private void promises12And13() {
        s.promise(12, "PITCH by a BLADE and a BLOW. Refused as told.");
        BladeBetweenThumbs x = Due.told("b06103;t530;k50;");
        s.is("it need not SOUND", x.pitch(0, 0, 60, 9), 105);
        int[][] out = {{1, 0, 0, 0}, {-1, 0, 0, 0}, {0, 1, 0, 0}, {0, -1, 0, 0}, {0, 0, -1, 0}, {0, 0, 61, 0},
            {0, 0, 0, -1}, {0, 0, 0, 10}, {LEAST, LEAST, LEAST, LEAST}, {MOST, MOST, MOST, MOST}};
        for (int[] o : out) {
            s.is("pitch" + Arrays.toString(o), x.pitch(o[0], o[1], o[2], o[3]), 1000000001);
        }
        s.promise(13, "A TRY: 1 it SOUNDS, 0 not, 2 more if the BLADE is SPLIT by it. -1, -3.");
        int[][] bad = {{0, 0, 0, -1, 0}, {0, 0, 0, 61, 0}, {0, 0, 0, 0, -1}, {0, 0, 0, 0, 61}, {1, 0, 0, 0, 0},
            {-1, 0, 0, 0, 0}, {0, 1, 0, 0, 0}, {0, -1, 0, 0, 0}, {0, 0, 1, 0, 0}, {0, 0, -1, 0, 0}};
        BladeBetweenThumbs y = Due.told("b05030;b05010;b05010;t130;k00;");
        for (int round = 0; round < 2; round++) {
            for (int[] o : bad) {
                int b = o[0] == 1 ? 3 : o[0];
                s.is("tries" + Arrays.toString(o), y.tries(b, o[1], o[2], o[3], o[4]), -1);
            }
            s.is("it SOUNDS, and is SPLIT in the end", y.tries(0, 0, 0, 6, 28), round == 0 ? 1 : 3);
        }
        for (int[] o : bad) {
            int b = o[0] == 1 ? 3 : o[0];
            s.is("SPLIT, and tries" + Arrays.toString(o), y.tries(b, o[1], o[2], o[3], o[4]), -1);
        }
        s.is("SPLIT", y.tries(0, 0, 0, 6, 28), -3);
        s.is("not, WEAR 1 of 1", y.tries(1, 0, 0, 0, 10), 0);
        s.is("SPLIT by it without a sound", y.tries(1, 0, 0, 60, 60), 2);
        s.is("SPLIT by it with a sound", y.tries(2, 0, 0, 6, 28), 3);
    }
}
