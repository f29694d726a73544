import java.util.Random;

/** Hedges by seeds: the class's answers against those of PlainRules, which tries out all there is. */
public final class PlainRulesTest {
    private static final Due due = new Due();
    private static final Random random = new Random(20261118);
    private static BladeBetweenThumbs x;
    private static PlainRules rules;
    private static String text;

    public static void main(String[] args) {
        for (int i = 0; i < 400; i++) {
            makeHedge();
            blades();
            for (int j = 0; j < 4; j++) {
                oneOfEach();
            }
            tunes();
            rest();
        }
        for (int n = 0; n <= 12; n++) {
            beasts(n);
        }
        due.end();
    }

    private static int from(int least, int most) {
        return least + random.nextInt(most - least + 1);
    }

    private static String two(int n) {
        return (n < 10 ? "0" : "") + n;
    }

    private static void makeHedge() {
        rules = new PlainRules();
        StringBuilder said = new StringBuilder();
        for (int i = from(1, 6); i > 0; i--) {
            int[] blade = {from(1, 24), from(1, 24), from(0, 9), 0};
            rules.blades.add(blade);
            said.append("b" + two(blade[0]) + two(blade[1]) + blade[2] + ";");
        }
        for (int i = from(1, 2); i > 0; i--) {
            int[] thumbs = {from(0, 9), from(0, 60)};
            rules.thumbs.add(thumbs);
            said.append("t" + thumbs[0] + two(thumbs[1]) + ";");
        }
        for (int i = from(1, 6); i > 0; i--) {
            int[] blow = {from(0, 7), from(0, 9)};
            rules.blows.add(blow);
            said.append("k" + blow[0] + blow[1] + ";");
        }
        text = said.toString();
        x = Due.told(text);
        for (int i = from(0, 12); i > 0; i--) {
            tryOnce();
        }
        if (from(0, 3) == 0) {
            int v = from(0, 9);
            due.is(text + " wets(0, " + v + ")", x.wets(0, v), rules.blades.get(0)[2]);
            rules.blades.get(0)[2] = v;
        }
    }

    private static void tryOnce() {
        int b = from(0, rules.blades.size() - 1);
        int t = from(0, rules.thumbs.size() - 1);
        int k = from(0, rules.blows.size() - 1);
        int tight = from(0, 60);
        int force = from(0, 60);
        int want = -3;
        if (!rules.isSplit(b)) {
            int[] blow = rules.blows.get(k);
            rules.blades.get(b)[3] += PlainRules.wears(blow[0], blow[1], force);
            want = (rules.sounds(b, t, k, tight, force) ? 1 : 0) + (rules.isSplit(b) ? 2 : 0);
        }
        due.is(text + " tries " + b + t + k, x.tries(b, t, k, tight, force), want);
    }

    private static void blades() {
        int split = 0;
        int wear = 0;
        for (int b = 0; b < rules.blades.size(); b++) {
            due.is(text + " wear of " + b, x.blade(b, 3), rules.blades.get(b)[3]);
            due.is(text + " split " + b, x.blade(b, 4), rules.isSplit(b) ? 1 : 0);
            split |= rules.isSplit(b) ? 1 << b : 0;
            wear += rules.blades.get(b)[3];
        }
        due.is(text + " count(3)", x.count(3), split);
        due.is(text + " count(4)", x.count(4), wear);
    }

    private static void oneOfEach() {
        int b = from(0, rules.blades.size() - 1);
        int t = from(0, rules.thumbs.size() - 1);
        int k = from(0, rules.blows.size() - 1);
        int tight = from(0, 60);
        int force = from(0, 60);
        int[] blow = rules.blows.get(k);
        String call = text + " by " + b + t + k + " at " + tight + " " + force + ": ";
        int[] spans = rules.spans(b, rules.thumbs.get(t)[0], k);
        for (int what = 0; what < 4; what++) {
            due.is(call + "span " + what, x.span(b, t, k, what), spans[what]);
        }
        due.is(call + "sounds", x.sounds(b, t, k, tight, force), rules.sounds(b, t, k, tight, force) ? 1 : 0);
        due.is(call + "wrong", x.wrong(b, t, k, tight, force) == 0 ? 1 : 0, x.sounds(b, t, k, tight, force));
        int pitch = PlainRules.pitch(blow[0], blow[1], rules.blades.get(b)[0], tight, force % 10);
        due.is(call + "pitch", x.pitch(b, k, tight, force % 10), pitch);
        int where = rules.where(b, t, k);
        due.is(call + "where", x.where(b, t, k, 0), where);
        due.is(call + "where tight", x.where(b, t, k, 1), where == 0 ? -4 : spans[0]);
        due.is(call + "where force", x.where(b, t, k, 2), where == 0 ? -4 : spans[2]);
        int[] next = rules.next(b, t, k, 100 * tight + force);
        due.is(call + "next", x.next(b, t, k, 100 * tight + force, 0), next == null ? -4 : next[0]);
        due.is(call + "next, far", x.next(b, t, k, 100 * tight + force, 1), next == null ? -4 : next[1]);
        due.is(call + "halves", x.halves(b, t, k), rules.halves(b, t, k));
        due.is(call + "lasts", x.lasts(b, k, force), rules.isSplit(b) ? -3 : rules.lasts(b, k, force));
        due.is(call + "best force", x.bestForce(b, t, k), rules.isSplit(b) ? -3 : rules.bestForce(b, t, k));
        tellings(call, b, t, k);
        odds(call, b, t, k, where);
        judged(call, b, t, k, tight);
    }

    /** Mostly told as it is, so that the first that is not so may lie far behind; often skipped. */
    private static void judged(String call, int b, int t, int k, int tight) {
        int sort = from(0, 2);
        int least = new int[] {Byte.MIN_VALUE, Short.MIN_VALUE, Integer.MIN_VALUE}[sort];
        int near = from(0, 1) == 0 && rules.where(b, t, k) > 0 ? x.where(b, t, k, 1) : tight;
        int[] forces = new int[from(0, 8)];
        for (int i = 0; i < forces.length; i++) {
            forces[i] = from(0, 60);
        }
        int[] told = new int[from(0, 10)];
        for (int i = 0; i < told.length; i++) {
            told[i] = least;
        }
        for (int i = 0; i < told.length; i++) {
            int dice = from(0, 9);
            for (int v = 0; v <= 2 && dice >= 3; v++) {
                told[i] = v;
                if (rules.judge(b, t, k, near, told, forces, least) != i) {
                    break;
                }
            }
            told[i] = dice == 0 ? from(0, 2) : i >= forces.length && dice < 7 ? least : told[i];
        }
        Due.numbers(x, 0, sort, told);
        Due.numbers(x, 1, from(0, 2), forces);
        int want = rules.judge(b, t, k, near, told, forces, least);
        due.is(call + "judge", x.judge(100 * b + 10 * t + k, near, 0, 1), want);
    }

    private static void tellings(String call, int b, int t, int k) {
        int best = -4;
        for (int told = 0; told < 3; told++) {
            int pairs = rules.telling(b, t, k, told);
            due.is(call + "telling " + told, x.telling(b, t, k, told), pairs);
            best = pairs > (best < 0 ? 0 : rules.telling(b, t, k, best)) ? told : best;
        }
        due.is(call + "telling 3", x.telling(b, t, k, 3), best);
    }

    private static void odds(String call, int b, int t, int k, int where) {
        long above = x.odds(b, t, k, 0);
        long below = x.odds(b, t, k, 1);
        long all = 61L * (rules.thumbs.get(t)[1] + 1);
        due.is(call + "odds, crosswise", above * all, below * where);
        for (int n = 2; n <= below; n++) {
            if (above % n == 0 && below % n == 0) {
                due.is(call + "odds have a common divisor " + n, 1, 0);
            }
        }
        int enough = -4;
        for (int n = 50; n >= 1; n--) {
            enough = n * where >= all ? n : enough;
        }
        due.is(call + "enough", x.enough(b, t, k), enough);
    }

    private static void tunes() {
        int t = from(0, rules.thumbs.size() - 1);
        int[] notes = {from(45, 90), from(45, 90), from(45, 90)};
        int can = 0;
        for (int note : notes) {
            due.is(text + " ways(" + t + ", " + note + ")", x.ways(t, note), rules.ways(t, note));
            can += rules.ways(t, note) > 0 ? 1 : 0;
        }
        int told = 10000 * notes[0] + 100 * notes[1] + notes[2];
        boolean all = rules.tune(t, notes[0], notes[1], notes[2]);
        due.is(text + " tune(" + t + ", " + told + ", 0)", x.tune(t, told, 0), all ? 1 : 0);
        due.is(text + " tune(" + t + ", " + told + ", 1)", x.tune(t, told, 1), can);
    }

    private static void rest() {
        int n = from(1, 20);
        int z = random.nextInt();
        int[] walks = rules.walks(n, z);
        due.is(text + " walks(" + n + ", " + z + ", 0)", x.walks(n, z, 0), walks[0]);
        due.is(text + " walks(" + n + ", " + z + ", 1)", x.walks(n, z, 1), walks[1]);
        int who = 0;
        for (int t = 0; t < rules.thumbs.size(); t++) {
            for (int k = 0; k < rules.blows.size(); k++) {
                int best = -4;
                for (int b = 0; b < rules.blades.size(); b++) {
                    int pairs = rules.isSplit(b) ? 0 : rules.where(b, t, k);
                    who |= pairs > 0 ? 1 << t : 0;
                    best = pairs > (best < 0 ? 0 : rules.where(best, t, k)) ? b : best;
                }
                due.is(text + " which(" + t + ", " + k + ")", x.which(t, k), best);
            }
        }
        due.is(text + " whoCan()", x.whoCan(), who);
    }

    private static void beasts(int n) {
        BladeBetweenThumbs y = new BladeBetweenThumbs();
        for (int i = 0; i < 12; i++) {
            int come = from(0, 10);
            int go = from(0, 10 - come);
            int calls = from(0, 9);
            String call = "nearer(" + n + ", " + (100 * come + go) + ", " + calls + ")";
            long above = y.nearer(n, 100 * come + go, calls, 0);
            long below = y.nearer(n, 100 * come + go, calls, 1);
            long unit = 1;
            int often = -4;
            for (int k = 0; k <= 9; k++, unit *= 10) {
                long arrivals = PlainRules.arrivals(n, come, go, k);
                often = often < 0 && 2 * arrivals >= unit ? k : often;
                if (k == calls) {
                    due.is(call + " crosswise", Math.multiplyExact(above, unit), Math.multiplyExact(below, arrivals));
                    boolean least = above == 0 ? below == 1 : !(above % 2 == 0 && below % 2 == 0 || above % 5 == 0
                        && below % 5 == 0);
                    due.is(call + " in least terms", least ? 1 : 0, 1);
                }
            }
            due.is("often(" + n + ", " + (100 * come + go) + ")", y.often(n, 100 * come + go), often);
        }
    }
}
