import java.util.Arrays;

/** Terms, II, and promises 25 to 36, sentence by sentence: who hears, tellings, odds, heaps. */
final class SentencesOfTelling {
    private static final int LEAST = Integer.MIN_VALUE;
    private static final int MOST = Integer.MAX_VALUE;
    private static final long REFUSED = 1000000001L;
    private static final int[] LEAST_OF_SORT = {-128, -32768, LEAST};
    private static final int[][] NOBODY = {{1, 0, 0}, {-1, 0, 0}, {LEAST, 0, 0}, {MOST, 0, 0}, {0, 1, 0}, {0, -1, 0},
        {0, LEAST, 0}, {0, MOST, 0}, {0, 0, 1}, {0, 0, -1}, {0, 0, LEAST}, {0, 0, MOST}};
    private static final int[] NO_SHELF = {-1, 8, LEAST, MOST};
    private static final int[] NO_PART = {-1, 2, LEAST, MOST};
    private final Sentences s;

    SentencesOfTelling(Sentences s) {
        this.s = s;
    }

    void all() {
        heard();
        nearer();
        often();
        answer();
        telling();
        odds();
        enough();
        heap();
        remainder();
        judged();
        walks();
        draw();
        promises25To28();
        promises29To31();
        promises32And33();
        promise34();
        promise35();
        promise36();
    }

    private void fraction(String call, long above, long below, long wantAbove, long wantBelow) {
        s.is(call + ", above", above, wantAbove);
        s.is(call + ", below", below, wantBelow);
    }

    // ---- Terms, II

    private void heard() {
        BladeBetweenThumbs x = new BladeBetweenThumbs();
        s.says("HEARD: who hears PITCH p (0 .. 99) as it is called with FORCE f:");
        int[][] out = {{-1, 0}, {100, 0}, {0, -1}, {0, 61}};
        for (int[] o : out) {
            s.is(Arrays.toString(o), x.heard(o[0], o[1]), -1);
        }
        s.is("the least", x.heard(0, 0), 0);
        s.is("the greatest", x.heard(99, 60), 5);
        s.says("a HEN (1) hides, if p is above 70;");
        s.is("70", x.heard(70, 0) & 1, 0);
        s.is("71", x.heard(71, 0) & 1, 1);
        s.is("71, loud", x.heard(71, 60) & 1, 1);
        s.is("99", x.heard(99, 0) & 1, 1);
        s.says("a DEER (2) comes, if p is 50 .. 70 and f is 20 or less;");
        int[][] deer = {{49, 20, 0}, {50, 20, 2}, {50, 21, 0}, {70, 20, 2}, {71, 20, 0}, {70, 21, 0}, {50, 0, 2}};
        for (int[] d : deer) {
            s.is(d[0] + " with " + d[1], x.heard(d[0], d[1]) & 2, d[2]);
        }
        s.says("a DOG (4) comes, if p is above 60 and f is above 20;");
        int[][] dog = {{60, 21, 0}, {61, 21, 4}, {61, 20, 0}, {99, 60, 4}, {0, 60, 0}};
        for (int[] d : dog) {
            s.is(d[0] + " with " + d[1], x.heard(d[0], d[1]) & 4, d[2]);
        }
        s.says("a FOX (8) comes, if p modulo 7 is 3: bits of those of whom it is so.");
        int[][] fox = {{2, 0, 0}, {3, 0, 8}, {4, 0, 0}, {10, 0, 8}, {94, 60, 13}, {98, 60, 5}, {52, 20, 10},
            {66, 21, 12}, {73, 20, 9}};
        for (int[] f : fox) {
            s.is(f[0] + " with " + f[1], x.heard(f[0], f[1]), f[2]);
        }
    }

    private void nearer() {
        s.says("NEARER: a beast is n steps off (0 .. 12); each call it comes one nearer by tenths c, goes one off by "
            + "tenths d (c and d 10 at most; else it stays), 12 at most, 0 for good: how likely it is at 0 behind k "
            + "calls (0 .. 9): a fraction in least terms.");
        BladeBetweenThumbs x = new BladeBetweenThumbs();
        int[][] calls = {{0, 10, 9, 1, 1}, {0, 0, 0, 1, 1}, {1, 1000, 0, 0, 1}, {1, 1000, 1, 1, 1}, {1, 0, 9, 0, 1},
            {1, 10, 9, 0, 1}, {9, 1000, 9, 1, 1}, {9, 1000, 8, 0, 1}, {10, 1000, 9, 0, 1}, {12, 1000, 9, 0, 1},
            {12, 10, 9, 0, 1}, {1, 500, 1, 1, 2}, {1, 505, 1, 1, 2}, {1, 505, 2, 1, 2}, {1, 505, 3, 5, 8},
            {1, 400, 1, 2, 5}, {1, 100, 1, 1, 10}, {2, 500, 2, 1, 4}, {9, 100, 9, 1, 1000000000}, {9, 500, 9, 1, 512},
            {5, 500, 9, 1, 2}};
        for (int[] c : calls) {
            fraction(Arrays.toString(c), x.nearer(c[0], c[1], c[2], 0), x.nearer(c[0], c[1], c[2], 1), c[3], c[4]);
        }
        int[][] out = {{-1, 0, 0}, {13, 0, 0}, {0, 11, 0}, {0, 506, 0}, {0, 605, 0}, {0, 1001, 0}, {0, 1100, 0},
            {0, 99, 0}, {0, -1, 0}, {0, -100, 0}, {0, 0, -1}, {0, 0, 10}};
        for (int[] o : out) {
            s.is(Arrays.toString(o), x.nearer(o[0], o[1], o[2], 0), REFUSED);
        }
    }

    private void often() {
        s.says("HOW OFTEN: the fewest calls (0 .. 9) with which that is half or more; -4.");
        BladeBetweenThumbs x = new BladeBetweenThumbs();
        int[][] calls = {{0, 0, 0}, {0, 10, 0}, {1, 500, 1}, {1, 400, 2}, {1, 1000, 1}, {9, 1000, 9}, {10, 1000, -4},
            {12, 1000, -4}, {1, 100, 7}, {5, 500, 9}, {6, 500, -4}, {1, 0, -4}, {1, 10, -4}, {2, 500, 3}};
        for (int[] c : calls) {
            s.is(Arrays.toString(c), x.often(c[0], c[1]), c[2]);
        }
    }

    private void answer() {
        s.says("ANSWER: odds that what came back with a wait of w beats (0 .. 9) at a PITCH d off (0 .. 9) is an "
            + "answer: an echo has d 0 and 2 beats, a friend d 1 and any wait, a bird any: alike likely ahead; "
            + "weights: echo 10 if d is 0 and w is 2, else 0; friend 10 if d is 1, 5 if d is 0, else 0; bird 3: the "
            + "friend's part of all as a fraction in least terms.");
        BladeBetweenThumbs x = new BladeBetweenThumbs();
        for (int w = 0; w <= 9; w++) {
            fraction("d 0, w " + w, x.answer(w, 0, 0), x.answer(w, 0, 1), 5, w == 2 ? 18 : 8);
            fraction("d 1, w " + w, x.answer(w, 1, 0), x.answer(w, 1, 1), 10, 13);
            for (int d = 2; d <= 9; d++) {
                fraction("d " + d + ", w " + w, x.answer(w, d, 0), x.answer(w, d, 1), 0, 1);
            }
        }
        int[] out = {-1, 10};
        for (int o : out) {
            s.is("w " + o, x.answer(o, 0, 0), REFUSED);
            s.is("d " + o, x.answer(0, o, 0), REFUSED);
        }
    }

    private void telling() {
        s.says("TELLING (0 .. 2) helps THUMBS: by 0 LOW is 2 less (0 at least; HIGH as it is), by 1 GRIP 5 more (60 at "
            + "most), by 2 SLIT 1 less (0 at least): WHERE by each for a BLADE and BLOW; the best, of several the "
            + "least (-4, if WHERE is 0 by all).");
        BladeBetweenThumbs x = Due.told("b03010;b02010;b01010;t060;t000;t360;t209;k00;k20;k10;");
        s.is("LOW 3: 1 .. 11", x.telling(0, 0, 0, 0), 11 * 21);
        s.is("LOW 2: 0 .. 10", x.telling(1, 0, 0, 0), 11 * 21);
        s.is("LOW 1: 0 .. 9", x.telling(2, 0, 0, 0), 10 * 21);
        s.is("LOW 0: 0 .. 8", x.telling(2, 0, 1, 0), 9 * 21);
        s.is("GRIP 60 stays", x.telling(0, 0, 0, 1), 9 * 21);
        s.is("GRIP 5: 3 .. 5", x.telling(0, 1, 0, 1), 3 * 21);
        s.is("SLIT 0 stays", x.telling(0, 0, 0, 2), 9 * 21);
        s.is("SLIT 0 stays, TIGHT 3 .. 4", Due.told("b03010;t004;k00;").telling(0, 0, 0, 2), 2 * 21);
        s.is("SLIT 1 for 2: 4 .. 9", x.telling(0, 3, 0, 2), 6 * 21);
        s.is("SHRIEKING, SLIT 7 for 8: FORCE 40 .. 60", Due.told("b01240;t860;k30;").telling(0, 0, 0, 2), 5 * 21);
        s.is("the best: LOW", x.telling(0, 2, 0, 3), 0);
        s.is("the best: GRIP", x.telling(0, 1, 0, 3), 1);
        s.is("the best: SLIT, 9 by 17 for 11 by 13", Due.told("b01249;t960;k30;").telling(0, 0, 0, 3), 2);
        s.is("all alike: the least", x.telling(2, 0, 1, 3), 0);
        s.is("LOW and GRIP alike: 3 .. 11, 5 .. 13", Due.told("b05010;t011;k00;").telling(0, 0, 0, 3), 0);
        s.is("GRIP by one more: 3 .. 10, 5 .. 13", Due.told("b05010;t010;k00;").telling(0, 0, 0, 3), 1);
        for (int told = 0; told < 3; told++) {
            s.is("EMPTY, by " + told, x.telling(0, 0, 2, told), 0);
            s.is("GRIP is far too small, by " + told, Due.told("b24010;t000;k00;").telling(0, 0, 0, told), 0);
        }
        s.is("EMPTY", x.telling(0, 0, 2, 3), -4);
        s.is("GRIP is far too small", Due.told("b24010;t000;k00;").telling(0, 0, 0, 3), -4);
        s.is("just by LOW", Due.told("b09010;t007;k00;").telling(0, 0, 0, 0), 21);
        s.is("not even by LOW", Due.told("b09010;t006;k00;").telling(0, 0, 0, 0), 0);
        s.is("just by GRIP", Due.told("b09010;t004;k00;").telling(0, 0, 0, 3), 1);
        s.is("just by SLIT", Due.told("b08010;t108;k00;").telling(0, 0, 0, 2), 21);
    }

    private void odds() {
        s.says("ODDS: TIGHT 0 .. GRIP and FORCE 0 .. 60 alike likely: how likely it SOUNDS: a fraction in least "
            + "terms;");
        BladeBetweenThumbs x = Due.told("b01010;t000;t001;t008;t060;k20;k10;k60;");
        fraction("GRIP 0", x.odds(0, 0, 0, 0), x.odds(0, 0, 0, 1), 21, 61);
        fraction("GRIP 1", x.odds(0, 1, 0, 0), x.odds(0, 1, 0, 1), 21, 61);
        fraction("GRIP 8", x.odds(0, 2, 0, 0), x.odds(0, 2, 0, 1), 21, 61);
        fraction("GRIP 60", x.odds(0, 3, 0, 0), x.odds(0, 3, 0, 1), 189, 3721);
        fraction("EMPTY", x.odds(0, 3, 1, 0), x.odds(0, 3, 1, 1), 0, 1);
        fraction("SOFT, GRIP 0", x.odds(0, 0, 2, 0), x.odds(0, 0, 2, 1), 0, 1);
        fraction("SOFT, GRIP 1", x.odds(0, 1, 2, 0), x.odds(0, 1, 2, 1), 11, 122);
    }

    private void enough() {
        s.says("TRIES: the fewest (1 .. 50) of which by these odds one or more SOUND in the mean (so many times these "
            + "odds are 1 or more); -4.");
        BladeBetweenThumbs x = Due.told("b01010;b16010;b19010;t000;t060;t016;t019;k20;k10;k00;");
        s.is("61 by 21", x.enough(0, 0, 0), 3);
        s.is("3721 by 189", x.enough(0, 1, 0), 20);
        s.is("EMPTY", x.enough(0, 0, 1), -4);
        s.is("1037 by 21", x.enough(1, 2, 2), 50);
        s.is("1220 by 21: 59", x.enough(2, 3, 2), -4);
        // SPLITTING FIGURE 3: 18 FORCES. 14 by 61 is 854, by 18 is 48; 15 by 61 is 915, by 18 is 51.
        s.is("48", Due.told("b13010;t013;k43;").enough(0, 0, 0), 48);
        s.is("51", Due.told("b14010;t014;k43;").enough(0, 0, 0), -4);
    }

    private void heap() {
        s.says("HEAP: a ROW tells WEARS of TRIES by one BLOW, one behind the other: FORCES (0 .. 60) that fit each: "
            + "how many TRIES have just one; the least FORCE of the first TRY (it may have several); -4, both, if a "
            + "TRY has none.");
        BladeBetweenThumbs x = Due.told("k00;k20;k30;k45;k60;k79;");
        int[] most = {6, 7, 14, 11, 0, 7};
        int[] least = {0, 1, 2, 5, 0, 1};
        for (int k = 0; k < 6; k++) {
            Due.numbers(x, 0, k % 3, least[k], most[k], most[k]);
            s.is("just FORCE 60, by BLOW " + k, x.heap(k, 0, 0), k == 4 ? 0 : 2);
            s.is("FORCE 0 of several, by BLOW " + k, x.heap(k, 0, 1), 0);
            Due.numbers(x, 0, k % 3, most[k], least[k]);
            s.is("FORCE 60 first, by BLOW " + k, x.heap(k, 0, 1), k == 4 ? 0 : 60);
            for (int what = 0; what < 2; what++) {
                Due.numbers(x, 0, k % 3, least[k], most[k] + 1);
                s.is("one too much, by BLOW " + k, x.heap(k, 0, what), -4);
                Due.numbers(x, 0, k % 3, least[k] - 1, most[k]);
                s.is("one too little, by BLOW " + k, x.heap(k, 0, what), -4);
            }
        }
        Due.numbers(x, 0, 2, 3);
        s.is("an odd one by a SHRIEKING one", x.heap(2, 0, 0), -4);
        Due.numbers(x, 0, 2, 5);
        s.is("50 .. 59: the least", x.heap(0, 0, 1), 50);
        x.row(0, 2, 0);
        s.is("no TRY has just one", x.heap(0, 0, 0), 0);
        s.is("there is no first TRY", x.heap(0, 0, 1), -4);
        x.row(0, 2, 100);
        s.is("100 TRIES, none has just one", x.heap(0, 0, 0), 0);
        s.is("100 TRIES, the first", x.heap(0, 0, 1), 0);
        for (int i = 0; i < 100; i++) {
            x.put(0, i, 6);
        }
        s.is("100 TRIES, each has just one", x.heap(0, 0, 0), 100);
        x.put(0, 99, 7);
        s.is("the last of 100 has none", x.heap(0, 0, 0), -4);
        s.says("FORGED: the first place with none; -4.");
        s.is("the last of 100", x.forged(0, 0), 99);
        x.put(0, 99, 6);
        s.is("no place of 100", x.forged(0, 0), -4);
        x.put(0, 50, -1);
        x.put(0, 51, LEAST);
        s.is("the first of two", x.forged(0, 0), 50);
        x.put(0, 0, MOST);
        s.is("the first of all", x.forged(0, 0), 0);
        x.row(0, 0, 0);
        s.is("no places", x.forged(0, 0), -4);
    }

    private void remainder() {
        s.says("REMAINDER: element i of a ROW modulo element j (of the same), as the machine has it (its sign is that "
            + "of the first); -16 where the machine refuses.");
        BladeBetweenThumbs x = new BladeBetweenThumbs();
        for (int sort = 0; sort < 3; sort++) {
            Due.numbers(x, sort, sort, LEAST_OF_SORT[sort], -1, 7, -7, 3, -3, 0);
            s.is("the least by -1", x.remainder(sort, 0, 1), 0);
            s.is("the least by itself", x.remainder(sort, 0, 0), 0);
            s.is("-1 by the least", x.remainder(sort, 1, 0), -1);
            s.is("7 by 3", x.remainder(sort, 2, 4), 1);
            s.is("7 by -3", x.remainder(sort, 2, 5), 1);
            s.is("-7 by 3", x.remainder(sort, 3, 4), -1);
            s.is("-7 by -3", x.remainder(sort, 3, 5), -1);
            s.is("3 by -7", x.remainder(sort, 4, 3), 3);
            s.is("0 by 3", x.remainder(sort, 6, 4), 0);
            s.is("3 by 0", x.remainder(sort, 4, 6), 1000000016);
            s.is("0 by 0", x.remainder(sort, 6, 6), 1000000016);
            s.is("the least by 0", x.remainder(sort, 0, 6), 1000000016);
        }
        Due.numbers(x, 2, 2, MOST, LEAST);
        s.is("the greatest by the least", x.remainder(2, 0, 1), MOST);
        s.is("the least by the greatest", x.remainder(2, 1, 0), -1);
    }

    private void judged() {
        s.says("JUDGED: a ROW tells of TRIES one behind the other with a BLADE, THUMBS, a BLOW, at TIGHT, with FORCES "
            + "as told in another ROW: 1 it SOUNDS, 0 not, 2 the BLADE is SPLIT already: the first that is not so (one "
            + "beyond the other ROW, too; the least number of the SORT is skipped wherever it stands, beyond the other "
            + "ROW too); -4.");
        // TIGHT 5 .. 13, FORCE 6 .. 26; LENGTH 3: FORCE 20 wears 2, so the second splits it.
        BladeBetweenThumbs x = Due.told("b05030;t060;k00;");
        Due.numbers(x, 1, 0, 26, 20, 20, 0);
        for (int sort = 0; sort < 3; sort++) {
            int skipped = LEAST_OF_SORT[sort];
            int[][] rows = {{1, 1, 2, 2, -4}, {0, 1, 2, 2, 0}, {2, 1, 2, 2, 0}, {1, 2, 2, 2, 1}, {1, 1, 1, 2, 2},
                {1, 1, 0, 2, 2}, {1, 1, 2, 0, 3}, {1, 1, 2, 1, 3}, {1, 3, 2, 2, 1}, {1, -1, 2, 2, 1},
                {skipped, 1, 2, 2, -4}, {skipped, skipped, 2, 2, -4}, {skipped, skipped, skipped, skipped, -4},
                {skipped, skipped, skipped, 1, 3}, {skipped + 1, 1, 2, 2, 0}};
            for (int[] r : rows) {
                Due.numbers(x, 0, sort, r[0], r[1], r[2], r[3]);
                s.is("SORT " + sort + Arrays.toString(r), x.judge(0, 5, 0, 1), r[4]);
            }
            int[][] beyond = {{2, 4}, {1, 4}, {0, 4}, {-4, 4}, {skipped, -4}};
            for (int[] b : beyond) {
                Due.numbers(x, 0, sort, 1, 1, 2, 2, b[0]);
                s.is("one beyond, SORT " + sort + ": " + b[0], x.judge(0, 5, 0, 1), b[1]);
                Due.numbers(x, 0, sort, 1, 1, 2, 2, skipped, b[0]);
                s.is("one beyond behind a skipped one, SORT " + sort + ": " + b[0], x.judge(0, 5, 0, 1),
                    b[1] == 4 ? 5 : -4);
            }
            Due.numbers(x, 0, sort, 1, 1);
            s.is("fewer than FORCES", x.judge(0, 5, 0, 1), -4);
            x.row(0, sort, 0);
            s.is("nothing is told", x.judge(0, 5, 0, 1), -4);
        }
        x.row(1, 2, 0);
        Due.numbers(x, 0, 0, -128, 1);
        s.is("no FORCES", x.judge(0, 5, 0, 1), 1);
        s.is("at TIGHT 4 and 14 it does not", judgedAt(4) + judgedAt(14), 0);
        s.is("at TIGHT 5 and 13 it does", judgedAt(5) + judgedAt(13), -8);
        judgedWhole();
    }

    /** -4 if it SOUNDS at TIGHT, else 0. */
    private static int judgedAt(int tight) {
        BladeBetweenThumbs x = Due.told("b05030;t060;k00;");
        Due.numbers(x, 0, 0, 1);
        Due.numbers(x, 1, 0, 6);
        return x.judge(0, tight, 0, 1);
    }

    private void judgedWhole() {
        BladeBetweenThumbs x = Due.told("b05030;t060;k00;");
        x.row(0, 0, 100);
        x.row(1, 0, 100);
        s.is("100 that do not SOUND", x.judge(0, 5, 0, 1), -4);
        x.put(0, 99, 1);
        s.is("but for the last", x.judge(0, 5, 0, 1), 99);
        x.put(1, 99, 6);
        s.is("the last does", x.judge(0, 5, 0, 1), -4);
        x.row(1, 0, 99);
        s.is("the last is beyond", x.judge(0, 5, 0, 1), 99);
        s.is("one ROW is both: 0 FORCE 0, 1 FORCE 1", x.judge(0, 5, 0, 0), 99);
        x.tries(0, 0, 0, 0, 60);
        s.is("it is SPLIT ahead of them", x.judge(0, 5, 0, 1), 0);
        x.put(0, 0, 2);
        s.is("the first is so", x.judge(0, 5, 0, 1), 1);
    }

    private void walks() {
        s.says("WALKS with a seed z: n walks (1 .. 20) of 10 TRIES: a DRAW below BLADES, THUMBS, BLOWS, 61 (TIGHT), 61 "
            + "(FORCE) each, by BLADES as they are now, SPLIT ones not blown: how many SOUND; how many are SPLIT at "
            + "the end, all together.");
        int[] seeds = {0, 1, -1, LEAST, MOST, 12345};
        PlainRules rules = new PlainRules();
        rules.blades.add(new int[] {1, 24, 9, 0});
        rules.blades.add(new int[] {3, 2, 0, 0});
        rules.blades.add(new int[] {2, 9, 3, 0});
        rules.thumbs.add(new int[] {0, 60});
        rules.thumbs.add(new int[] {4, 30});
        rules.blows.add(new int[] {2, 5});
        rules.blows.add(new int[] {6, 5});
        rules.blows.add(new int[] {4, 3});
        BladeBetweenThumbs x = Due.told("b01249;b03020;b02093;t060;t430;k25;k65;k43;");
        for (int z : seeds) {
            for (int n = 1; n <= 20; n++) {
                int[] want = rules.walks(n, z);
                s.is(n + " walks, seed " + z + ", SOUND", x.walks(n, z, 0), want[0]);
                s.is(n + " walks, seed " + z + ", SPLIT", x.walks(n, z, 1), want[1]);
            }
        }
        s.is("the same once more", x.walks(20, 1, 1), rules.walks(20, 1)[1]);
        BladeBetweenThumbs y = Due.told("b01010;b01010;t060;k49;y0000000;y1000000;");
        s.is("SPLIT ones are not blown", y.walks(20, 18, 0), 0);
        s.is("two SPLIT in each of 20", y.walks(20, 18, 1), 40);
        s.is("0 walks", y.walks(0, 18, 0), -1);
        s.is("21 walks", y.walks(21, 18, 0), -1);
    }

    private void draw() {
        s.says("A DRAW below n: z becomes z times 1103515245 plus 12345 (an int); (z without its sign's bit over "
            + "65536, cut) modulo n.");
        // The first TRY splits the BLADE, so that a walk SOUNDS by its fourth and fifth DRAW alone: TIGHT 1 .. 9,
        // FORCE 6 .. 17.
        BladeBetweenThumbs x = Due.told("b01010;t060;k49;");
        int[] sounding = {18, 40, 55, 77, 94, 116, 199, -28, -50, -104, MOST - 27, LEAST + 18};
        for (int z : sounding) {
            s.is("seed " + z, x.walks(1, z, 0), 1);
        }
        int[] silent = {0, 1, -1, 17, 19, 39, 41, LEAST, MOST};
        for (int z : silent) {
            s.is("seed " + z, x.walks(1, z, 0), 0);
        }
        s.is("DRAWS go on from walk to walk, seed 0", x.walks(20, 0, 0), 1);
        s.is("DRAWS go on from walk to walk, the least seed", x.walks(20, LEAST, 0), 1);
        s.is("DRAWS go on from walk to walk, the greatest seed", x.walks(20, MOST, 0), 0);
    }

    // ---- promises 25 to 36

    private static BladeBetweenThumbs split() {
        return Due.told("b05010;t160;k00;y0000060;");
    }

    private void promises25To28() {
        BladeBetweenThumbs x = new BladeBetweenThumbs();
        s.promise(25, "HEARD (bits). -1.");
        int[][] out = {{-1, 0}, {100, 0}, {LEAST, 0}, {MOST, 0}, {0, -1}, {0, 61}, {0, LEAST}, {0, MOST}, {-1, -1}};
        for (int[] o : out) {
            s.is("heard" + Arrays.toString(o), x.heard(o[0], o[1]), -1);
        }
        s.is("none", x.heard(0, 60), 0);
        s.is("three", x.heard(73, 21), 13);
        s.promise(26, "NEARER, c and d told as 100 c and d; part 0 above, 1 below the line. Refused as told.");
        s.is("100 c", x.nearer(1, 1000, 1, 0), 1);
        s.is("d", x.nearer(1, 10, 1, 0), 0);
        int[][] bad = {{-1, 0, 0, 0}, {13, 0, 0, 0}, {LEAST, 0, 0, 0}, {MOST, 0, 0, 0}, {0, -1, 0, 0}, {0, 11, 0, 0},
            {0, 110, 0, 0}, {0, 1001, 0, 0}, {0, 1100, 0, 0}, {0, 10000, 0, 0}, {0, LEAST, 0, 0}, {0, MOST, 0, 0},
            {0, 0, -1, 0}, {0, 0, 10, 0}, {0, 0, LEAST, 0}, {0, 0, MOST, 0}, {0, 0, 0, -1}, {0, 0, 0, 2},
            {0, 0, 0, LEAST}, {0, 0, 0, MOST}};
        for (int[] o : bad) {
            s.is("nearer" + Arrays.toString(o), x.nearer(o[0], o[1], o[2], o[3]), REFUSED);
        }
        s.is("109 is c 1 and d 9", x.nearer(1, 109, 1, 1), 10);
        s.promise(27, "HOW OFTEN; -4. -1.");
        s.is("none", x.often(12, 0), -4);
        for (int[] o : bad) {
            if (o[2] == 0 && o[3] == 0) {
                s.is("often" + Arrays.toString(o), x.often(o[0], o[1]), -1);
            }
        }
        s.promise(28, "ANSWER; part likewise. Refused as told.");
        s.is("above", x.answer(9, 0, 0), 5);
        s.is("below", x.answer(9, 0, 1), 8);
        int[] none = {-1, 10, LEAST, MOST};
        for (int i = 0; i < 4; i++) {
            s.is("w " + none[i], x.answer(none[i], 0, 0), REFUSED);
            s.is("d " + none[i], x.answer(0, none[i], 0), REFUSED);
            s.is("part " + NO_PART[i], x.answer(0, 0, NO_PART[i]), REFUSED);
        }
    }

    private void promises29To31() {
        BladeBetweenThumbs x = Due.told("b05010;t200;k00;");
        s.promise(29, "TELLING: WHERE by one (0 .. 2), the best (told 3; -4). -1.");
        for (int told = 0; told <= 3; told++) {
            s.is("none by " + told, x.telling(0, 0, 0, told), told == 3 ? -4 : 0);
            for (int[] n : NOBODY) {
                s.is("telling" + Arrays.toString(n), x.telling(n[0], n[1], n[2], told), -1);
            }
        }
        int[] noTelling = {-1, 4, LEAST, MOST};
        for (int told : noTelling) {
            s.is("told " + told, x.telling(0, 0, 0, told), -1);
        }
        s.is("a SPLIT one, too", split().telling(0, 0, 0, 3), 0);
        s.promise(30, "ODDS; part likewise. Refused as told.");
        s.is("none, above", x.odds(0, 0, 0, 0), 0);
        s.is("none, below", x.odds(0, 0, 0, 1), 1);
        for (int[] n : NOBODY) {
            s.is("odds" + Arrays.toString(n), x.odds(n[0], n[1], n[2], 0), REFUSED);
            s.is("odds" + Arrays.toString(n), x.odds(n[0], n[1], n[2], 1), REFUSED);
        }
        for (int part : NO_PART) {
            s.is("part " + part, x.odds(0, 0, 0, part), REFUSED);
        }
        s.is("a SPLIT one, too", split().odds(0, 0, 0, 0), 189);
        s.promise(31, "TRIES; -4. -1.");
        s.is("none", x.enough(0, 0, 0), -4);
        for (int[] n : NOBODY) {
            s.is("enough" + Arrays.toString(n), x.enough(n[0], n[1], n[2]), -1);
        }
        s.is("a SPLIT one, too", split().enough(0, 0, 0), 20);
    }

    private void promises32And33() {
        BladeBetweenThumbs x = Due.told("k00;");
        Due.numbers(x, 0, 1, 6);
        x.keep(1, 1, 0, 9);
        int[] noBlow = {-1, 1, LEAST, MOST};
        int[] noWhat = {-1, 2, LEAST, MOST};
        s.promise(32, "HEAP by the ROW in SHELF d: how many have just one (what 0; -4), the least FORCE of the first "
            + "TRY (1; -4). -1, -11, -12 (no ROW).");
        for (int i = 0; i < 4; i++) {
            for (int d = 0; d < 3; d++) {
                s.is("BLOW " + noBlow[i] + ", SHELF " + d, x.heap(noBlow[i], d, 0), -1);
                s.is("what " + noWhat[i] + ", SHELF " + d, x.heap(0, d, noWhat[i]), -1);
            }
            s.is("SHELF " + NO_SHELF[i], x.heap(0, NO_SHELF[i], 0), -1);
        }
        int[] want = {1, 60};
        for (int what = 0; what < 2; what++) {
            s.is("a ROW", x.heap(0, 0, what), want[what]);
            s.is("a BLOW", x.heap(0, 1, what), -12);
            s.is("nothing", x.heap(0, 7, what), -11);
        }
        s.promise(33, "FORGED; -4. -1, -11, -12.");
        for (int i = 0; i < 4; i++) {
            for (int d = 0; d < 3; d++) {
                s.is("BLOW " + noBlow[i] + ", SHELF " + d, x.forged(noBlow[i], d), -1);
            }
            s.is("SHELF " + NO_SHELF[i], x.forged(0, NO_SHELF[i]), -1);
        }
        s.is("none", x.forged(0, 0), -4);
        s.is("a BLOW", x.forged(0, 1), -12);
        s.is("nothing", x.forged(0, 7), -11);
    }

    private void promise34() {
        s.promise(34, "REMAINDER. Refused as told: -1, -11, -12 (no ROW), -13 no such place, -16.");
        BladeBetweenThumbs x = new BladeBetweenThumbs();
        x.row(0, 2, 100);
        x.put(0, 99, -5);
        x.keep(1, 1, 0, 9);
        x.row(3, 2, 0);
        for (int d : NO_SHELF) {
            s.is("SHELF " + d, x.remainder(d, -1, -1), 1000000001);
        }
        s.is("nothing ahead of no place", x.remainder(2, -1, -1), 1000000011);
        s.is("a BLOW ahead of no place", x.remainder(1, -1, -1), 1000000012);
        int[] noPlace = {-1, 100, LEAST, MOST};
        for (int i : noPlace) {
            s.is("i " + i + " ahead of 0", x.remainder(0, i, 0), 1000000013);
            s.is("j " + i, x.remainder(0, 99, i), 1000000013);
        }
        s.is("a ROW without places", x.remainder(3, 0, 0), 1000000013);
        s.is("the first by the last", x.remainder(0, 0, 99), 0);
        s.is("the last by the first, 0", x.remainder(0, 99, 0), 1000000016);
    }

    private void promise35() {
        s.promise(35, "JUDGED by ROWS: SHELF d of what it did, SHELF e of FORCES (0 .. 60); who: 100 the BLADE, 10 "
            + "THUMBS and the BLOW; -4. -1, -11 (either), -12 (no ROW), -13 (a FORCE that is none).");
        BladeBetweenThumbs x = Due.told("b24249;".repeat(5) + "b01249;" + "t000;".repeat(3) + "t001;"
            + "k10;".repeat(5) + "k00;");
        Due.numbers(x, 0, 2, 1);
        Due.numbers(x, 1, 2, 6);
        s.is("the last of all", x.judge(535, 1, 0, 1), -4);
        int[] others = {435, 525, 534, 0};
        for (int who : others) {
            s.is("who " + who, x.judge(who, 1, 0, 1), 0);
        }
        int[] nobody = {-1, -10, -100, -535, 536, 539, 545, 590, 600, 635, 1535, LEAST, MOST};
        for (int who : nobody) {
            s.is("who " + who, x.judge(who, 1, 0, 1), -1);
            s.is("who " + who + " ahead of nothing", x.judge(who, 1, 6, 7), -1);
        }
        int[] noTight = {-1, 61, LEAST, MOST};
        for (int tight : noTight) {
            s.is("TIGHT " + tight + " ahead of nothing", x.judge(535, tight, 6, 7), -1);
        }
        refusedByShelves(x);
    }

    private void refusedByShelves(BladeBetweenThumbs x) {
        x.keep(2, 1, 0, 9);
        for (int d : NO_SHELF) {
            s.is("SHELF d " + d + " ahead of nothing", x.judge(535, 1, d, 7), -1);
            s.is("SHELF e " + d + " ahead of nothing", x.judge(535, 1, 7, d), -1);
        }
        s.is("nothing on both", x.judge(535, 1, 6, 7), -11);
        s.is("nothing on d ahead of a BLOW on e", x.judge(535, 1, 7, 2), -11);
        s.is("nothing on e ahead of a BLOW on d", x.judge(535, 1, 2, 7), -11);
        int[] noForce = {-1, 61, LEAST, MOST};
        for (int force : noForce) {
            x.put(1, 0, force);
            s.is("a BLOW on d ahead of FORCE " + force, x.judge(535, 1, 2, 1), -12);
            s.is("a BLOW on e", x.judge(535, 1, 0, 2), -12);
            s.is("FORCE " + force, x.judge(535, 1, 0, 1), -13);
            s.is("it may be told of what it did", x.judge(535, 1, 1, 0), force == LEAST ? -4 : 0);
        }
        s.is("the greatest TIGHT", x.judge(535, 60, 1, 0), 0);
        x.row(1, 2, 100);
        s.is("100 FORCES", x.judge(535, 1, 0, 1), 0);
        x.put(1, 99, 60);
        s.is("the last FORCE is 60", x.judge(535, 1, 0, 1), 0);
        x.put(1, 99, 61);
        s.is("the last FORCE is none", x.judge(535, 1, 0, 1), -13);
        x.row(0, 2, 0);
        s.is("though nothing is told", x.judge(535, 1, 0, 1), -13);
    }

    private void promise36() {
        s.promise(36, "WALKS: SOUND (what 0), SPLIT (1). -1, -3 no BLADES, THUMBS or BLOWS.");
        String[] texts = {"t060;k49;", "b01010;k49;", "b01010;t060;", "k49;", "t060;", "b01010;"};
        int[] noWalks = {-1, 0, 21, LEAST, MOST};
        for (String text : texts) {
            BladeBetweenThumbs x = Due.told(text);
            for (int what = 0; what < 2; what++) {
                s.is(text, x.walks(1, 18, what), -3);
                for (int n : noWalks) {
                    s.is("-1 ahead of -3, n " + n, x.walks(n, 18, what), -1);
                }
            }
            for (int what : NO_PART) {
                s.is("-1 ahead of -3, what " + what, x.walks(1, 18, what), -1);
            }
        }
        BladeBetweenThumbs y = Due.told("b01010;t060;k49;");
        for (int n : noWalks) {
            s.is("n " + n, y.walks(n, 18, 0), -1);
        }
        for (int what : NO_PART) {
            s.is("what " + what, y.walks(1, 18, what), -1);
        }
        s.is("SOUND", y.walks(1, 18, 0), 1);
        s.is("SPLIT", y.walks(20, 18, 1), 20);
        s.is("nothing is worn", y.count(4), 0);
    }
}
