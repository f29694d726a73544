import java.util.regex.Matcher;
import java.util.regex.Pattern;

/**
 * The whole object once more: every call with its REFUSALS, SHELVES, texts and THE IMAGE, round the rules of
 * PlainRules. A call is told by its name and its numbers, so that whole runs can be held against the class.
 */
final class PlainObject {
    /** Stand for what element() throws; no call answers so. */
    static final long ILLEGAL_ARGUMENT = Long.MIN_VALUE;
    static final long ILLEGAL_STATE = Long.MIN_VALUE + 1;
    private static final Pattern TEXT = Pattern.compile("(b\\d{5};|t\\d{3};|k\\d{2};|y\\d{7};)+");
    private static final int[] LEAST_OF_SORT = {Byte.MIN_VALUE, Short.MIN_VALUE, Integer.MIN_VALUE};

    PlainRules now = new PlainRules();
    private PlainRules image;
    /** KIND and FIGURE of the BLOW on a SHELF, or null. */
    final int[][] held = new int[8][];
    /** The ROW on a SHELF, or null; its SORT beside it. */
    final int[][] rows = new int[8][];
    private final int[] sorts = new int[8];

    long answer(String call, int... a) {
        switch (call) {
            case "hedge": return hedge(a[0]);
            case "blade": return !has(0, a[0]) || out(a[1], 0, 4) ? -1 : a[1] == 4 ? bit(now.isSplit(a[0]))
                : now.blades.get(a[0])[a[1]];
            case "thumbs": return !has(1, a[0]) || out(a[1], 0, 1) ? -1 : now.thumbs.get(a[0])[a[1]];
            case "blow": return !has(2, a[0]) || out(a[1], 0, 2) ? -1 : a[1] == 2 ? wears(a[0], 30)
                : now.blows.get(a[0])[a[1]];
            case "grows": return grows(a[0], a[1], a[2]);
            case "learns": return learns(a[0]);
            case "comes": return comes(a[0], a[1]);
            case "wets": return wets(a[0], a[1]);
            case "tries": return tries(a[0], a[1], a[2], a[3], a[4]);
            case "walks": return walks(a[0], a[1], a[2]);
            case "image": image = now.copy(); return now.blades.size();
            case "restore": return restore();
            case "count": return count(a[0]);
            case "whoCan": return whoCan();
            case "which": return which(a[0], a[1]);
            case "ways": return !has(1, a[0]) || out(a[1], 0, 99) ? -1 : now.ways(a[0], a[1]);
            case "tune": return tune(a[0], a[1], a[2]);
            case "lasts": return !has(0, a[0]) || !has(2, a[1]) || out(a[2], 0, 60) ? -1
                : now.isSplit(a[0]) ? -3 : now.lasts(a[0], a[1], a[2]);
            case "clash": return clash(a[0], a[1], a[2]);
            case "pitch": return pitch(a[0], a[1], a[2], a[3]);
            case "heard": return heard(a[0], a[1]);
            case "nearer": return nearer(a[0], a[1], a[2], a[3]);
            case "often": return often(a[0], a[1]);
            case "answer": return answered(a[0], a[1], a[2]);
            case "keep": case "row": case "put": case "element": case "copy": case "cost": case "toss":
                return ofShelves(call, a);
            case "heap": case "forged": case "remainder": case "judge":
                return ofRows(call, a);
            default: return ofThree(call, a);
        }
    }

    private static boolean out(int v, int least, int most) {
        return v < least || v > most;
    }

    private static int bit(boolean is) {
        return is ? 1 : 0;
    }

    /** Whether there is such a BLADE (0), such THUMBS (1), such a BLOW (2). */
    private boolean has(int which, int n) {
        int[] sizes = {now.blades.size(), now.thumbs.size(), now.blows.size()};
        return n >= 0 && n < sizes[which];
    }

    private int wears(int k, int force) {
        return PlainRules.wears(now.blows.get(k)[0], now.blows.get(k)[1], force);
    }

    // ---- the hedge as told

    private String text(int d) {
        StringBuilder text = new StringBuilder();
        for (int v : rows[d]) {
            text.append((char) (v & 255));
        }
        return text.toString();
    }

    private int hedge(int d) {
        if (row(d) != 0) {
            return row(d);
        }
        if (sorts[d] != 0) {
            return -12;
        }
        String text = text(d);
        if (!TEXT.matcher(text).matches()) {
            return -1000 - longestThatCanGoOn(text);
        }
        PlainRules before = now;
        now = now.copy();
        int at = 0;
        String[] statements = text.split(";");
        for (String statement : statements) {
            if (!does(statement)) {
                now = before;
                return -2000 - at;
            }
            at += statement.length() + 1;
        }
        return statements.length;
    }

    private static int longestThatCanGoOn(String text) {
        int n = text.length();
        while (true) {
            Matcher start = TEXT.matcher(text.substring(0, n));
            if (start.matches() || start.hitEnd()) {
                return n;
            }
            n--;
        }
    }

    private boolean does(String statement) {
        int[] cuts = new int[][] {{2, 2, 1}, {1, 2}, {1, 1}, {1, 1, 1, 2, 2}}["btky".indexOf(statement.charAt(0))];
        int[] v = new int[cuts.length];
        int at = 1;
        for (int i = 0; i < cuts.length; i++) {
            v[i] = Integer.parseInt(statement.substring(at, at + cuts[i]));
            at += cuts[i];
        }
        switch (statement.charAt(0)) {
            case 'b': return grows(v[0], v[1], v[2]) >= 0;
            case 't': return comes(v[0], v[1]) >= 0;
            case 'k': return !out(v[0], 0, 7) && added(v) >= 0;
            default: return tries(v[0], v[1], v[2], v[3], v[4]) >= 0;
        }
    }

    private int grows(int breadth, int length, int wet) {
        if (out(breadth, 1, 24) || out(length, 1, 24) || out(wet, 0, 9)) {
            return -1;
        }
        if (now.blades.size() == 6) {
            return -2;
        }
        now.blades.add(new int[] {breadth, length, wet, 0});
        return now.blades.size() - 1;
    }

    private int comes(int slit, int grip) {
        if (out(slit, 0, 9) || out(grip, 0, 60)) {
            return -1;
        }
        if (now.thumbs.size() == 4) {
            return -2;
        }
        now.thumbs.add(new int[] {slit, grip});
        return now.thumbs.size() - 1;
    }

    private int added(int[] blow) {
        if (now.blows.size() == 6) {
            return -2;
        }
        now.blows.add(blow.clone());
        return now.blows.size() - 1;
    }

    private int learns(int d) {
        return blow(d) != 0 ? blow(d) : added(held[d]);
    }

    private int wets(int b, int v) {
        if (!has(0, b) || out(v, 0, 9)) {
            return -1;
        }
        int was = now.blades.get(b)[2];
        now.blades.get(b)[2] = v;
        return was;
    }

    private int tries(int b, int t, int k, int tight, int force) {
        if (!has(0, b) || !has(1, t) || !has(2, k) || out(tight, 0, 60) || out(force, 0, 60)) {
            return -1;
        }
        if (now.isSplit(b)) {
            return -3;
        }
        now.blades.get(b)[3] += wears(k, force);
        return bit(now.sounds(b, t, k, tight, force)) + 2 * bit(now.isSplit(b));
    }

    private int pitch(int b, int k, int tight, int cup) {
        if (!has(0, b) || !has(2, k) || out(tight, 0, 60) || out(cup, 0, 9)) {
            return 1000000001;
        }
        int[] blow = now.blows.get(k);
        return PlainRules.pitch(blow[0], blow[1], now.blades.get(b)[0], tight, cup);
    }

    private int restore() {
        if (image == null) {
            return -3;
        }
        now = image.copy();
        return now.blades.size();
    }

    private int count(int what) {
        int split = 0;
        int wear = 0;
        for (int b = 0; b < now.blades.size(); b++) {
            split += bit(now.isSplit(b)) << b;
            wear += now.blades.get(b)[3];
        }
        int grip = now.thumbs.stream().mapToInt(thumbs -> thumbs[1]).sum();
        int[] all = {now.blades.size(), now.thumbs.size(), now.blows.size(), split, wear, grip};
        return out(what, 0, 5) ? -1 : all[what];
    }

    private int walks(int n, int z, int what) {
        if (out(n, 1, 20) || out(what, 0, 1)) {
            return -1;
        }
        boolean some = has(0, 0) && has(1, 0) && has(2, 0);
        return some ? now.walks(n, z)[what] : -3;
    }

    // ---- where it sounds, of a BLADE, THUMBS and a BLOW

    private long ofThree(String call, int[] a) {
        boolean is = has(0, a[0]) && has(1, a[1]) && has(2, a[2]);
        boolean isLong = call.equals("odds");
        if (!is || isOutBehindThree(call, a)) {
            return isLong ? 1000000001L : -1;
        }
        int b = a[0];
        int t = a[1];
        int k = a[2];
        int[] spans = now.spans(b, now.thumbs.get(t)[0], k);
        int grip = now.thumbs.get(t)[1];
        switch (call) {
            case "span": return spans[a[3]];
            case "sounds": return bit(now.sounds(b, t, k, a[3], a[4]));
            case "wrong": return bit(a[3] < spans[0]) + 2 * bit(a[3] > spans[1]) + 4 * bit(a[3] > grip)
                + 8 * bit(a[4] < spans[2]) + 16 * bit(a[4] > spans[3]);
            case "where": return a[3] == 0 ? now.where(b, t, k) : now.where(b, t, k) == 0 ? -4
                : now.next(b, t, k, 0)[0] / (a[3] == 1 ? 100 : 1) % 100;
            case "next": return now.where(b, t, k) == 0 ? -4 : now.next(b, t, k, a[3])[a[4]];
            case "halves": return now.halves(b, t, k);
            case "bestForce": return now.isSplit(b) ? -3 : now.bestForce(b, t, k);
            case "telling": return telling(b, t, k, a[3]);
            case "odds": return part(now.where(b, t, k), 61L * (grip + 1), a[3]);
            case "enough":
                int n = 1;
                while (n <= 50 && n * now.where(b, t, k) < 61 * (grip + 1)) {
                    n++;
                }
                return n > 50 ? -4 : n;
            default: throw new IllegalArgumentException(call);
        }
    }

    private static boolean isOutBehindThree(String call, int[] a) {
        switch (call) {
            case "span": case "telling": return out(a[3], 0, 3);
            case "sounds": case "wrong": return out(a[3], 0, 60) || out(a[4], 0, 60);
            case "where": return out(a[3], 0, 2);
            case "next": return out(a[3], 0, 6060) || a[3] % 100 > 60 || out(a[4], 0, 1);
            case "odds": return out(a[3], 0, 1);
            default: return false;
        }
    }

    private int telling(int b, int t, int k, int told) {
        if (told < 3) {
            return now.telling(b, t, k, told);
        }
        int most = 0;
        int best = -4;
        for (int each = 2; each >= 0; each--) {
            int pairs = now.telling(b, t, k, each);
            if (pairs > 0 && pairs >= most) {
                most = pairs;
                best = each;
            }
        }
        return best;
    }

    private int whoCan() {
        int bits = 0;
        for (int t = 0; t < now.thumbs.size(); t++) {
            for (int k = 0; k < now.blows.size(); k++) {
                bits |= which(t, k) >= 0 ? 1 << t : 0;
            }
        }
        return bits;
    }

    private int which(int t, int k) {
        if (!has(1, t) || !has(2, k)) {
            return -1;
        }
        int most = 1;
        int best = -4;
        for (int b = now.blades.size() - 1; b >= 0; b--) {
            if (!now.isSplit(b) && now.where(b, t, k) >= most) {
                most = now.where(b, t, k);
                best = b;
            }
        }
        return best;
    }

    // ---- tunes, who hears

    private int tune(int t, int notes, int what) {
        if (!has(1, t) || out(notes, 0, 999999) || out(what, 0, 1)) {
            return -1;
        }
        int[] three = {notes / 10000, notes / 100 % 100, notes % 100};
        int many = 0;
        for (int note : three) {
            many += bit(now.ways(t, note) > 0);
        }
        if (what == 1) {
            return many;
        }
        return bit(many == 3 && now.tune(t, three[0], three[1], three[2]));
    }

    private int clash(int k, int tight, int what) {
        if (!has(2, k) || out(tight, 0, 60) || out(what, 0, 1)) {
            return -1;
        }
        int many = 0;
        int first = -4;
        for (int pair = 66; pair >= 0; pair--) {
            int one = pair / 10;
            int two = pair % 10;
            if (one < two && has(0, one) && has(0, two)) {
                int apart = Math.abs(pitch(one, k, tight, 0) - pitch(two, k, tight, 0));
                many += bit(apart == 1 || apart == 2);
                first = apart == 1 || apart == 2 ? pair : first;
            }
        }
        return what == 0 ? many : first;
    }

    private static int heard(int p, int f) {
        if (out(p, 0, 99) || out(f, 0, 60)) {
            return -1;
        }
        return bit(p > 70) + 2 * bit(p >= 50 && p <= 70 && f <= 20) + 4 * bit(p > 60 && f > 20) + 8 * bit(p % 7 == 3);
    }

    /** Part 0 above, 1 below the line, by trying out every divisor that a fraction here can have. */
    private static long part(long above, long below, int part) {
        if (above == 0) {
            return part == 0 ? 0 : 1;
        }
        for (long n = 2; n <= 61; n++) {
            while (above % n == 0 && below % n == 0) {
                above /= n;
                below /= n;
            }
        }
        return part == 0 ? above : below;
    }

    private static boolean areNoTenths(int odds) {
        return odds < 0 || odds / 100 + odds % 100 > 10;
    }

    private static long nearer(int n, int odds, int calls, int part) {
        if (out(n, 0, 12) || areNoTenths(odds) || out(calls, 0, 9) || out(part, 0, 1)) {
            return 1000000001L;
        }
        return part(PlainRules.arrivals(n, odds / 100, odds % 100, calls), Math.round(Math.pow(10, calls)), part);
    }

    private static int often(int n, int odds) {
        if (out(n, 0, 12) || areNoTenths(odds)) {
            return -1;
        }
        int calls = 0;
        while (calls <= 9 && 2 * PlainRules.arrivals(n, odds / 100, odds % 100, calls) < Math.pow(10, calls)) {
            calls++;
        }
        return calls > 9 ? -4 : calls;
    }

    private static long answered(int wait, int off, int part) {
        if (out(wait, 0, 9) || out(off, 0, 9) || out(part, 0, 1)) {
            return 1000000001L;
        }
        int friend = new int[] {5, 10, 0, 0, 0, 0, 0, 0, 0, 0}[off];
        return part(friend, friend + 3 + 10 * bit(wait == 2 && off == 0), part);
    }

    // ---- what asks ROWS

    /** 0 if there is a ROW on SHELF d, else the refusal. */
    private int row(int d) {
        return out(d, 0, 7) ? -1 : rows[d] != null ? 0 : held[d] != null ? -12 : -11;
    }

    /** 0 if there is a BLOW on SHELF d, else the refusal. */
    private int blow(int d) {
        return out(d, 0, 7) ? -1 : held[d] != null ? 0 : rows[d] != null ? -12 : -11;
    }

    /** Of two SHELVES the refusal that is told first: -1, then -11, then -12; 0 if there are ROWS on both. */
    private int rows(int d, int e) {
        int[] order = {-1, -11, -12};
        for (int refused : order) {
            if (row(d) == refused || row(e) == refused) {
                return refused;
            }
        }
        return 0;
    }

    private static boolean isPlace(int i, int[] row) {
        return i >= 0 && i < row.length;
    }

    private long ofRows(String call, int[] a) {
        switch (call) {
            case "heap": return !has(2, a[0]) || out(a[2], 0, 1) ? -1 : heap(a[0], a[1], a[2]);
            case "forged": return !has(2, a[0]) ? -1 : heap(a[0], a[1], 2);
            case "remainder":
                if (row(a[0]) != 0) {
                    return 1000000000 - row(a[0]);
                }
                int[] row = rows[a[0]];
                if (!isPlace(a[1], row) || !isPlace(a[2], row)) {
                    return 1000000013;
                }
                return row[a[2]] == 0 ? 1000000016 : (long) row[a[1]] % row[a[2]];
            default: return judge(a[0], a[1], a[2], a[3]);
        }
    }

    /** What 2 is FORGED. */
    private int heap(int k, int d, int what) {
        if (row(d) != 0) {
            return row(d);
        }
        int single = 0;
        int least = -4;
        for (int i = 0; i < rows[d].length; i++) {
            int fits = 0;
            for (int force = 60; force >= 0; force--) {
                if (wears(k, force) == rows[d][i]) {
                    fits++;
                    least = i == 0 ? force : least;
                }
            }
            if (fits == 0) {
                return what == 2 ? i : -4;
            }
            single += bit(fits == 1);
        }
        return what == 0 ? single : what == 1 ? least : -4;
    }

    private int judge(int who, int tight, int d, int e) {
        if (who < 0 || !has(0, who / 100) || !has(1, who / 10 % 10) || !has(2, who % 10) || out(tight, 0, 60)) {
            return -1;
        }
        if (rows(d, e) != 0) {
            return rows(d, e);
        }
        for (int force : rows[e]) {
            if (out(force, 0, 60)) {
                return -13;
            }
        }
        return now.judge(who / 100, who / 10 % 10, who % 10, tight, rows[d], rows[e], LEAST_OF_SORT[sorts[d]]);
    }

    // ---- SHELVES

    private long ofShelves(String call, int[] a) {
        int d = a[0];
        switch (call) {
            case "keep": return keep(d, a[1], a[2], a[3]);
            case "row":
                if (out(d, 0, 7) || out(a[1], 0, 2) || a[2] > 100) {
                    return -1;
                }
                if (a[2] < 0) {
                    return -14;
                }
                held[d] = null;
                rows[d] = new int[a[2]];
                sorts[d] = a[1];
                return 0;
            case "put":
                if (row(d) != 0 || !isPlace(a[1], rows[d])) {
                    return row(d) != 0 ? row(d) : -13;
                }
                rows[d][a[1]] = sorts[d] == 0 ? (byte) a[2] : sorts[d] == 1 ? (short) a[2] : a[2];
                return 0;
            case "element":
                if (out(d, 0, 7)) {
                    return ILLEGAL_ARGUMENT;
                }
                return row(d) != 0 || !isPlace(a[1], rows[d]) ? ILLEGAL_STATE : rows[d][a[1]];
            case "copy": return copy(d, a[1], a[2], a[3], a[4]);
            case "cost": return blow(d) != 0 ? blow(d) : cost(held[d][0], held[d][1]);
            default: return blow(d) != 0 ? blow(d) : toss(held[d][0], held[d][1]);
        }
    }

    private int keep(int d, int what, int k, int figure) {
        if (out(d, 0, 7) || out(what, 0, 1) || what == 1 && (out(k, 0, 7) || out(figure, 0, 9))) {
            return -1;
        }
        rows[d] = null;
        held[d] = what == 0 ? null : new int[] {k, figure};
        return 0;
    }

    private int copy(int d, int i, int e, int j, int n) {
        if (rows(d, e) != 0) {
            return rows(d, e);
        }
        if (sorts[d] != sorts[e]) {
            return -12;
        }
        long endOne = (long) i + n;
        long endTwo = (long) j + n;
        if (n < 0 || i < 0 || j < 0 || endOne > rows[d].length || endTwo > rows[e].length) {
            return -13;
        }
        int[] taken = rows[d].clone();
        for (int m = 0; m < n; m++) {
            rows[e][j + m] = taken[i + m];
        }
        return n;
    }

    private static int cost(int kind, int figure) {
        return new int[] {3, 2, 3 + figure, 6 + 2 * figure, 7, 5 + figure, (5 + figure) / 2, 2 + figure}[kind];
    }

    private static int toss(int kind, int figure) {
        if (figure == 0 || kind == 1 || kind == 7) {
            return -15;
        }
        return kind == 3 ? 200 + cost(3, figure) : kind == 0 || kind == 4 ? figure : 100 + figure;
    }
}
