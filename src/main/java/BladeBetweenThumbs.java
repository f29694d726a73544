import java.util.Arrays;

/**
 * Blades of grass blown between the thumbs: where they sound, at which pitch, what it wears, and what
 * follows from that. Words in capitals are the document's; its numbered promises say what each call answers.
 */
public final class BladeBetweenThumbs {
    private static final int NO_SUCH = -1;
    private static final int NO_ROOM = -2;
    private static final int NOT_AS_IT_MUST_BE = -3;
    private static final int NONE = -4;
    private static final int NOTHING_HELD = -11;
    private static final int OTHER_KIND = -12;
    private static final int NO_PLACE = -13;
    private static final int SIZE_BELOW_0 = -14;
    private static final int NO_FAILURE = -15;
    private static final int MACHINE_REFUSES = -16;
    /** Refusals of calls whose plain answers may lie below 0, or are longs, are this less the refusal. */
    private static final int REFUSED = 1000000000;

    private static final int MOST_BLADES = 6;
    private static final int MOST_THUMBS = 4;
    private static final int MOST_BLOWS = 6;
    private static final int MOST_SHELVES = 8;
    private static final int MOST_ELEMENTS = 100;
    private static final int MOST_STEPS = 12;
    private static final int MOST_CALLS = 9;
    /** The greatest TIGHT and the greatest FORCE. */
    private static final int TOP = 60;
    private static final int TOP_NOTE = 99;
    private static final int TOP_LASTS = 99;
    private static final int TOP_ENOUGH = 50;
    private static final int MOST_WALKS = 20;
    private static final int TRIES_A_WALK = 10;

    private static final int SORT_BYTES = 0;
    private static final int SORT_SHORTS = 1;
    private static final int SORT_INTS = 2;
    private static final int LEAST_BYTE = -128;
    private static final int LEAST_SHORT = -32768;
    private static final int LEAST_INT = -2147483648;

    private final Hedge now = new Hedge();
    private final Hedge kept = new Hedge();
    /** Tries that may have to be forgotten are done here. */
    private final Hedge spare = new Hedge();
    private boolean isKept;
    private final Shelf[] shelves = new Shelf[MOST_SHELVES];
    private long[] chances = new long[MOST_STEPS + 1];
    private long[] chancesBehind = new long[MOST_STEPS + 1];
    private int seed;

    public BladeBetweenThumbs() {
        for (int d = 0; d < MOST_SHELVES; d++) {
            shelves[d] = new Shelf();
        }
    }

    // ---- the hedge as told

    public int hedge(int d) {
        int refused = rowRefusal(d);
        if (refused < 0) {
            return refused;
        }
        Shelf text = shelves[d];
        if (text.sort != SORT_BYTES) {
            return OTHER_KIND;
        }
        int place = firstBadByte(text);
        if (place >= 0) {
            return -1000 - place;
        }
        spare.become(now);
        int many = 0;
        for (int at = 0; at < text.size; at += lengthAt(text, at)) {
            if (!isDoneOnSpare(text, at)) {
                return -2000 - at;
            }
            many++;
        }
        now.become(spare);
        return many;
    }

    public int blade(int b, int what) {
        if (!now.hasBlade(b)) {
            return NO_SUCH;
        }
        switch (what) {
            case 0: return now.breadth[b];
            case 1: return now.length[b];
            case 2: return now.wet[b];
            case 3: return now.wear[b];
            case 4: return now.isSplit(b) ? 1 : 0;
            default: return NO_SUCH;
        }
    }

    public int thumbs(int t, int what) {
        if (!now.hasThumbs(t) || isOut(what, 0, 1)) {
            return NO_SUCH;
        }
        return what == 0 ? now.slit[t] : now.grip[t];
    }

    public int blow(int k, int what) {
        if (!now.hasBlow(k)) {
            return NO_SUCH;
        }
        switch (what) {
            case 0: return now.blow[k].kind;
            case 1: return now.blow[k].figure;
            case 2: return now.blow[k].wearBy(30);
            default: return NO_SUCH;
        }
    }

    public int grows(int breadth, int length, int wet) {
        return now.addBlade(breadth, length, wet);
    }

    public int learns(int d) {
        int refused = blowRefusal(d);
        return refused < 0 ? refused : now.addBlow(shelves[d].blow);
    }

    public int comes(int slit, int grip) {
        return now.addThumbs(slit, grip);
    }

    public int wets(int b, int v) {
        if (!now.hasBlade(b) || isOut(v, 0, 9)) {
            return NO_SUCH;
        }
        int was = now.wet[b];
        now.wet[b] = v;
        return was;
    }

    public int span(int b, int t, int k, int what) {
        if (!now.hasAll(b, t, k)) {
            return NO_SUCH;
        }
        Span span = now.spanOf(b, t, k);
        switch (what) {
            case 0: return span.low;
            case 1: return span.high;
            case 2: return span.softest;
            case 3: return span.hardest;
            default: return NO_SUCH;
        }
    }

    public int sounds(int b, int t, int k, int tight, int force) {
        if (!now.hasAll(b, t, k) || isOut(tight, 0, TOP) || isOut(force, 0, TOP)) {
            return NO_SUCH;
        }
        return now.spanOf(b, t, k).wrongBits(tight, force) == 0 ? 1 : 0;
    }

    public int pitch(int b, int k, int tight, int cup) {
        if (!now.hasBlade(b) || !now.hasBlow(k) || isOut(tight, 0, TOP) || isOut(cup, 0, 9)) {
            return REFUSED - NO_SUCH;
        }
        return now.blow[k].pitchAt(now.breadth[b], tight, cup);
    }

    public int tries(int b, int t, int k, int tight, int force) {
        if (!now.hasAll(b, t, k) || isOut(tight, 0, TOP) || isOut(force, 0, TOP)) {
            return NO_SUCH;
        }
        if (now.isSplit(b)) {
            return NOT_AS_IT_MUST_BE;
        }
        int sounding = now.blowOnce(b, t, k, tight, force);
        return now.isSplit(b) ? sounding + 2 : sounding;
    }

    // ---- where it sounds

    public int where(int b, int t, int k, int what) {
        if (!now.hasAll(b, t, k) || isOut(what, 0, 2)) {
            return NO_SUCH;
        }
        Span span = now.spanOf(b, t, k);
        int pairs = span.pairs();
        if (what == 0) {
            return pairs;
        }
        if (pairs == 0) {
            return NONE;
        }
        return what == 1 ? span.low : span.softest;
    }

    public int whoCan() {
        int bits = 0;
        for (int t = 0; t < now.thumbs; t++) {
            if (canAny(t)) {
                bits |= 1 << t;
            }
        }
        return bits;
    }

    public int which(int t, int k) {
        if (!now.hasThumbs(t) || !now.hasBlow(k)) {
            return NO_SUCH;
        }
        int best = NONE;
        int most = 0;
        for (int b = 0; b < now.blades; b++) {
            int pairs = now.isSplit(b) ? 0 : now.spanOf(b, t, k).pairs();
            if (pairs > most) {
                most = pairs;
                best = b;
            }
        }
        return best;
    }

    public int wrong(int b, int t, int k, int tight, int force) {
        if (!now.hasAll(b, t, k) || isOut(tight, 0, TOP) || isOut(force, 0, TOP)) {
            return NO_SUCH;
        }
        return now.spanOf(b, t, k).wrongBits(tight, force);
    }

    public int next(int b, int t, int k, int told, int what) {
        int tight = told / 100;
        int force = told % 100;
        if (!now.hasAll(b, t, k) || isOut(what, 0, 1) || isOut(tight, 0, TOP) || isOut(force, 0, TOP)) {
            return NO_SUCH;
        }
        Span span = now.spanOf(b, t, k);
        if (span.pairs() == 0) {
            return NONE;
        }
        // The pairs fill a rectangle, so the nearest is found for TIGHT and FORCE each by itself, and is the only one.
        int nearTight = Math.max(span.low, Math.min(span.topTight(), tight));
        int nearForce = Math.max(span.softest, Math.min(span.topForce(), force));
        if (what == 0) {
            return 100 * nearTight + nearForce;
        }
        return Math.abs(nearTight - tight) + Math.abs(nearForce - force);
    }

    public int halves(int b, int t, int k) {
        if (!now.hasAll(b, t, k)) {
            return NO_SUCH;
        }
        Span span = now.spanOf(b, t, k);
        int from = 0;
        int to = TOP;
        for (int n = 1; n <= TOP + 1 && from <= to; n++) {
            int middle = (from + to) / 2;
            if (middle < span.low) {
                from = middle + 1;
            } else if (middle > span.high) {
                to = middle - 1;
            } else {
                return n;
            }
        }
        return NONE;
    }

    // ---- tunes, how long

    public int ways(int t, int note) {
        if (!now.hasThumbs(t) || isOut(note, 0, TOP_NOTE)) {
            return NO_SUCH;
        }
        int sum = 0;
        for (int b = 0; b < now.blades; b++) {
            for (int k = 0; k < now.blows; k++) {
                sum += waysBy(b, t, k, note);
            }
        }
        return sum;
    }

    public int tune(int t, int notes, int what) {
        if (!now.hasThumbs(t) || isOut(notes, 0, 999999) || isOut(what, 0, 1)) {
            return NO_SUCH;
        }
        int first = bladesFor(t, notes / 10000);
        int second = bladesFor(t, notes / 100 % 100);
        int third = bladesFor(t, notes % 100);
        if (what == 0) {
            return areThreeUnlike(first, second, third) ? 1 : 0;
        }
        return (first != 0 ? 1 : 0) + (second != 0 ? 1 : 0) + (third != 0 ? 1 : 0);
    }

    public int lasts(int b, int k, int force) {
        if (!now.hasBlade(b) || !now.hasBlow(k) || isOut(force, 0, TOP)) {
            return NO_SUCH;
        }
        return now.isSplit(b) ? NOT_AS_IT_MUST_BE : triesLeft(b, k, force);
    }

    public int bestForce(int b, int t, int k) {
        if (!now.hasAll(b, t, k)) {
            return NO_SUCH;
        }
        if (now.isSplit(b)) {
            return NOT_AS_IT_MUST_BE;
        }
        Span span = now.spanOf(b, t, k);
        if (span.pairs() == 0) {
            return NONE;
        }
        int best = NONE;
        int most = 0;
        for (int force = span.softest; force <= span.topForce(); force++) {
            int left = triesLeft(b, k, force);
            if (left > most) {
                most = left;
                best = force;
            }
        }
        return best;
    }

    public int clash(int k, int tight, int what) {
        if (!now.hasBlow(k) || isOut(tight, 0, TOP) || isOut(what, 0, 1)) {
            return NO_SUCH;
        }
        int many = 0;
        int first = NONE;
        for (int b = 0; b < now.blades; b++) {
            for (int other = b + 1; other < now.blades; other++) {
                if (doClash(b, other, k, tight)) {
                    many++;
                    first = many == 1 ? 10 * b + other : first;
                }
            }
        }
        return what == 0 ? many : first;
    }

    // ---- who hears

    public int heard(int pitch, int force) {
        if (isOut(pitch, 0, TOP_NOTE) || isOut(force, 0, TOP)) {
            return NO_SUCH;
        }
        int hen = pitch > 70 ? 1 : 0;
        int deer = pitch >= 50 && pitch <= 70 && force <= 20 ? 2 : 0;
        int dog = pitch > 60 && force > 20 ? 4 : 0;
        int fox = pitch % 7 == 3 ? 8 : 0;
        return hen + deer + dog + fox;
    }

    public long nearer(int n, int odds, int calls, int part) {
        if (isOut(n, 0, MOST_STEPS) || !areTenths(odds) || isOut(calls, 0, MOST_CALLS) || isOut(part, 0, 1)) {
            return (long) REFUSED - NO_SUCH;
        }
        return inLeastTerms(arrivals(n, odds, calls), powerOf10(calls), part);
    }

    public int often(int n, int odds) {
        if (isOut(n, 0, MOST_STEPS) || !areTenths(odds)) {
            return NO_SUCH;
        }
        for (int calls = 0; calls <= MOST_CALLS; calls++) {
            if (2 * arrivals(n, odds, calls) >= powerOf10(calls)) {
                return calls;
            }
        }
        return NONE;
    }

    public long answer(int wait, int off, int part) {
        if (isOut(wait, 0, 9) || isOut(off, 0, 9) || isOut(part, 0, 1)) {
            return (long) REFUSED - NO_SUCH;
        }
        int echo = off == 0 && wait == 2 ? 10 : 0;
        int friend = off == 1 ? 10 : off == 0 ? 5 : 0;
        int bird = 3;
        return inLeastTerms(friend, echo + friend + bird, part);
    }

    // ---- tellings, odds, heaps

    public int telling(int b, int t, int k, int told) {
        if (!now.hasAll(b, t, k) || isOut(told, 0, 3)) {
            return NO_SUCH;
        }
        if (told < 3) {
            return pairsWhenTold(b, t, k, told);
        }
        int best = NONE;
        int most = 0;
        for (int each = 0; each < 3; each++) {
            int pairs = pairsWhenTold(b, t, k, each);
            if (pairs > most) {
                most = pairs;
                best = each;
            }
        }
        return best;
    }

    public long odds(int b, int t, int k, int part) {
        if (!now.hasAll(b, t, k) || isOut(part, 0, 1)) {
            return (long) REFUSED - NO_SUCH;
        }
        return inLeastTerms(now.spanOf(b, t, k).pairs(), pairsInGrip(t), part);
    }

    public int enough(int b, int t, int k) {
        if (!now.hasAll(b, t, k)) {
            return NO_SUCH;
        }
        int pairs = now.spanOf(b, t, k).pairs();
        for (int n = 1; n <= TOP_ENOUGH; n++) {
            if (n * pairs >= pairsInGrip(t)) {
                return n;
            }
        }
        return NONE;
    }

    public int heap(int k, int d, int what) {
        if (!now.hasBlow(k) || isOut(what, 0, 1)) {
            return NO_SUCH;
        }
        int refused = rowRefusal(d);
        if (refused < 0) {
            return refused;
        }
        Shelf told = shelves[d];
        if (firstForged(k, told) >= 0) {
            return NONE;
        }
        if (what == 1) {
            return told.size == 0 ? NONE : leastForceThatFits(k, told.cells[0]);
        }
        int single = 0;
        for (int i = 0; i < told.size; i++) {
            if (forcesThatFit(k, told.cells[i]) == 1) {
                single++;
            }
        }
        return single;
    }

    public int forged(int k, int d) {
        if (!now.hasBlow(k)) {
            return NO_SUCH;
        }
        int refused = rowRefusal(d);
        return refused < 0 ? refused : firstForged(k, shelves[d]);
    }

    public int remainder(int d, int i, int j) {
        int refused = rowRefusal(d);
        if (refused < 0) {
            return REFUSED - refused;
        }
        Shelf row = shelves[d];
        if (!row.hasPlace(i) || !row.hasPlace(j)) {
            return REFUSED - NO_PLACE;
        }
        int divisor = row.cells[j];
        return divisor == 0 ? REFUSED - MACHINE_REFUSES : row.cells[i] % divisor;
    }

    public int judge(int who, int tight, int d, int e) {
        int b = who / 100;
        int t = who / 10 % 10;
        int k = who % 10;
        if (who < 0 || !now.hasAll(b, t, k) || isOut(tight, 0, TOP)) {
            return NO_SUCH;
        }
        int refused = rowsRefusal(d, e);
        if (refused < 0) {
            return refused;
        }
        Shelf forces = shelves[e];
        for (int i = 0; i < forces.size; i++) {
            if (isOut(forces.cells[i], 0, TOP)) {
                return NO_PLACE;
            }
        }
        return firstNotSo(b, t, k, tight, shelves[d], forces);
    }

    public int walks(int n, int z, int what) {
        if (isOut(n, 1, MOST_WALKS) || isOut(what, 0, 1)) {
            return NO_SUCH;
        }
        if (now.blades == 0 || now.thumbs == 0 || now.blows == 0) {
            return NOT_AS_IT_MUST_BE;
        }
        seed = z;
        int sounding = 0;
        int split = 0;
        for (int i = 0; i < n; i++) {
            spare.become(now);
            sounding += walkOnSpare();
            split += Integer.bitCount(spare.splitBits());
        }
        return what == 0 ? sounding : split;
    }

    // ---- the image, what is told

    public int image() {
        kept.become(now);
        isKept = true;
        return now.blades;
    }

    public int restore() {
        if (!isKept) {
            return NOT_AS_IT_MUST_BE;
        }
        now.become(kept);
        return now.blades;
    }

    public int count(int what) {
        switch (what) {
            case 0: return now.blades;
            case 1: return now.thumbs;
            case 2: return now.blows;
            case 3: return now.splitBits();
            case 4: return sumOf(now.wear, now.blades);
            case 5: return sumOf(now.grip, now.thumbs);
            default: return NO_SUCH;
        }
    }

    // ---- shelves

    public int keep(int d, int what, int k, int figure) {
        if (isOut(d, 0, MOST_SHELVES - 1) || isOut(what, 0, 1)) {
            return NO_SUCH;
        }
        if (what == 0) {
            shelves[d].holdNothing();
            return 0;
        }
        Blow one = newBlow(k, figure);
        if (one == null) {
            return NO_SUCH;
        }
        shelves[d].holdBlow(one);
        return 0;
    }

    public int row(int d, int sort, int n) {
        if (isOut(d, 0, MOST_SHELVES - 1) || isOut(sort, SORT_BYTES, SORT_INTS) || n > MOST_ELEMENTS) {
            return NO_SUCH;
        }
        if (n < 0) {
            return SIZE_BELOW_0;
        }
        shelves[d].holdRow(sort, n);
        return 0;
    }

    public int put(int d, int i, int v) {
        int refused = rowRefusal(d);
        if (refused < 0) {
            return refused;
        }
        Shelf row = shelves[d];
        if (!row.hasPlace(i)) {
            return NO_PLACE;
        }
        row.cells[i] = row.cutToSort(v);
        return 0;
    }

    public long element(int d, int i) throws IllegalArgumentException, IllegalStateException {
        if (isOut(d, 0, MOST_SHELVES - 1)) {
            throw new IllegalArgumentException("no such shelf");
        }
        Shelf row = shelves[d];
        if (!row.isRow || !row.hasPlace(i)) {
            throw new IllegalStateException("no row, or no such place");
        }
        return row.cells[i];
    }

    public int copy(int d, int i, int e, int j, int n) {
        int refused = rowsRefusal(d, e);
        if (refused < 0) {
            return refused;
        }
        Shelf from = shelves[d];
        Shelf to = shelves[e];
        if (from.sort != to.sort) {
            return OTHER_KIND;
        }
        if (n < 0 || !from.hasPlaces(i, n) || !to.hasPlaces(j, n)) {
            return NO_PLACE;
        }
        System.arraycopy(from.cells, i, to.cells, j, n);
        return n;
    }

    public int cost(int d) {
        int refused = blowRefusal(d);
        return refused < 0 ? refused : shelves[d].blow.costs();
    }

    public int toss(int d) {
        int refused = blowRefusal(d);
        if (refused < 0) {
            return refused;
        }
        Blow thrower = shelves[d].blow;
        try {
            thrower.fail();
            return NO_FAILURE;
        } catch (IllegalStateException ofBlow) {
            return thrower.figure;
        } catch (IllegalArgumentException ofSounding) {
            return 100 + thrower.figure;
        } catch (UnsupportedOperationException ofShrieking) {
            return 200 + thrower.costs();
        }
    }

    // ---- what refuses

    private static boolean isOut(int v, int least, int most) {
        return v < least || v > most;
    }

    /** 0 if SHELF d holds a ROW, else what a call that wants one answers. */
    private int rowRefusal(int d) {
        if (isOut(d, 0, MOST_SHELVES - 1)) {
            return NO_SUCH;
        }
        if (shelves[d].isEmpty()) {
            return NOTHING_HELD;
        }
        return shelves[d].isRow ? 0 : OTHER_KIND;
    }

    /** 0 if both SHELVES hold ROWS, else the refusal that is told first, whichever SHELF it comes from. */
    private int rowsRefusal(int d, int e) {
        int one = rowRefusal(d);
        int other = rowRefusal(e);
        if (one == NO_SUCH || other == NO_SUCH) {
            return NO_SUCH;
        }
        if (one == NOTHING_HELD || other == NOTHING_HELD) {
            return NOTHING_HELD;
        }
        return one < 0 ? one : other;
    }

    /** 0 if SHELF d holds a BLOW, else what a call that wants one answers. */
    private int blowRefusal(int d) {
        if (isOut(d, 0, MOST_SHELVES - 1)) {
            return NO_SUCH;
        }
        if (shelves[d].isEmpty()) {
            return NOTHING_HELD;
        }
        return shelves[d].blow != null ? 0 : OTHER_KIND;
    }

    // ---- the text of a hedge

    /** The place of the FAULT of kind 1; -1 without one. */
    private static int firstBadByte(Shelf text) {
        int at = 0;
        do {
            int digits = digitsBehind(text.byteAt(at));
            if (digits < 0) {
                return at;
            }
            int end = at + digits + 1;
            for (int i = at + 1; i < end; i++) {
                if (isOut(text.byteAt(i), '0', '9')) {
                    return i;
                }
            }
            if (text.byteAt(end) != ';') {
                return end;
            }
            at = end + 1;
        } while (at < text.size);
        return -1;
    }

    /** How many digits a STATEMENT has behind its letter; -1 if none begins so. */
    private static int digitsBehind(int letter) {
        switch (letter) {
            case 'b': return 5;
            case 't': return 3;
            case 'k': return 2;
            case 'y': return 7;
            default: return -1;
        }
    }

    /** How long the STATEMENT is that begins there, with its letter and ";". */
    private static int lengthAt(Shelf text, int at) {
        return Math.max(0, digitsBehind(text.byteAt(at))) + 2;
    }

    private boolean isDoneOnSpare(Shelf text, int at) {
        switch (text.byteAt(at)) {
            case 'b':
                return spare.addBlade(text.twoDigitsAt(at + 1), text.twoDigitsAt(at + 3), text.digitAt(at + 5)) >= 0;
            case 't':
                return spare.addThumbs(text.digitAt(at + 1), text.twoDigitsAt(at + 2)) >= 0;
            case 'k':
                return spare.addBlow(newBlow(text.digitAt(at + 1), text.digitAt(at + 2))) >= 0;
            default:
                return isTriedOnSpare(text, at);
        }
    }

    private boolean isTriedOnSpare(Shelf text, int at) {
        int b = text.digitAt(at + 1);
        int t = text.digitAt(at + 2);
        int k = text.digitAt(at + 3);
        int tight = text.twoDigitsAt(at + 4);
        int force = text.twoDigitsAt(at + 6);
        if (!spare.hasAll(b, t, k) || isOut(tight, 0, TOP) || isOut(force, 0, TOP) || spare.isSplit(b)) {
            return false;
        }
        // Whether it SOUNDS is not asked for: all that a TRY leaves behind is WEAR.
        spare.wear[b] += spare.blow[k].wearBy(force);
        return true;
    }

    // ---- what several calls need

    /** Null if there is no such KIND or FIGURE. */
    private static Blow newBlow(int kind, int figure) {
        if (isOut(figure, 0, 9)) {
            return null;
        }
        switch (kind) {
            case 0: return new Blow(kind, figure);
            case 1: return new Empty(kind, figure);
            case 2: return new Sounding(kind, figure);
            case 3: return new Shrieking(kind, figure);
            case 4: return new Splitting(kind, figure);
            case 5: return new Cupped(kind, figure);
            case 6: return new Soft(kind, figure);
            case 7: return new Slipped(kind, figure);
            default: return null;
        }
    }

    private static int sumOf(int[] numbers, int n) {
        int sum = 0;
        for (int i = 0; i < n && i < numbers.length; i++) {
            sum += numbers[i];
        }
        return sum;
    }

    private boolean canAny(int t) {
        for (int b = 0; b < now.blades; b++) {
            for (int k = 0; k < now.blows; k++) {
                if (!now.isSplit(b) && now.spanOf(b, t, k).pairs() > 0) {
                    return true;
                }
            }
        }
        return false;
    }

    private int waysBy(int b, int t, int k, int note) {
        Span span = now.spanOf(b, t, k);
        if (now.isSplit(b) || span.pairs() == 0) {
            return 0;
        }
        int sum = 0;
        for (int tight = span.low; tight <= span.topTight(); tight++) {
            for (int cup = 0; cup <= 9; cup++) {
                if (now.blow[k].pitchAt(now.breadth[b], tight, cup) == note) {
                    sum++;
                }
            }
        }
        return sum;
    }

    /** BLADES (bits) by which a note can be. */
    private int bladesFor(int t, int note) {
        int bits = 0;
        for (int b = 0; b < now.blades; b++) {
            for (int k = 0; k < now.blows; k++) {
                if (waysBy(b, t, k, note) > 0) {
                    bits |= 1 << b;
                }
            }
        }
        return bits;
    }

    private static boolean areThreeUnlike(int first, int second, int third) {
        for (int one = 1; one < 1 << MOST_BLADES; one <<= 1) {
            for (int two = 1; two < 1 << MOST_BLADES; two <<= 1) {
                boolean twoCan = (first & one) != 0 && (second & two) != 0 && one != two;
                if (twoCan && (third & ~one & ~two) != 0) {
                    return true;
                }
            }
        }
        return false;
    }

    /** LASTS, for a BLADE that is not SPLIT. */
    private int triesLeft(int b, int k, int force) {
        int wears = now.blow[k].wearBy(force);
        if (wears <= 0) {
            return TOP_LASTS;
        }
        int bears = now.length[b] + now.wet[b] - now.wear[b];
        return Math.min(TOP_LASTS, bears / wears + 1);
    }

    private boolean doClash(int b, int other, int k, int tight) {
        int one = now.blow[k].pitchAt(now.breadth[b], tight, 0);
        int two = now.blow[k].pitchAt(now.breadth[other], tight, 0);
        int apart = Math.abs(one - two);
        return apart == 1 || apart == 2;
    }

    /** Whether odds tells tenths c and d, 10 at most together. */
    private static boolean areTenths(int odds) {
        return odds >= 0 && odds / 100 + odds % 100 <= 10;
    }

    /** In how many of 10 to the power of calls even cases the beast is at 0 behind so many calls. */
    private long arrivals(int n, int odds, int calls) {
        Arrays.fill(chances, 0L);
        chances[n] = 1;
        for (int i = 0; i < calls; i++) {
            callOnce(odds / 100, odds % 100);
        }
        return chances[0];
    }

    private void callOnce(int come, int go) {
        Arrays.fill(chancesBehind, 0L);
        chancesBehind[0] = 10 * chances[0];
        for (int n = 1; n <= MOST_STEPS; n++) {
            chancesBehind[n - 1] += come * chances[n];
            chancesBehind[Math.min(n + 1, MOST_STEPS)] += go * chances[n];
            chancesBehind[n] += (10 - come - go) * chances[n];
        }
        long[] old = chances;
        chances = chancesBehind;
        chancesBehind = old;
    }

    private static long powerOf10(int n) {
        long power = 1;
        for (int i = 0; i < n; i++) {
            power *= 10;
        }
        return power;
    }

    /** Part 0 above, 1 below the line of a fraction whose lower part is above 0. */
    private static long inLeastTerms(long above, long below, int part) {
        long common = below;
        long rest = above;
        // Euclid's steps on longs are fewer than 100.
        for (int i = 0; i < 100 && rest != 0; i++) {
            long left = common % rest;
            common = rest;
            rest = left;
        }
        long asked = part == 0 ? above : below;
        return common == 0 ? asked : asked / common;
    }

    private int pairsWhenTold(int b, int t, int k, int told) {
        spare.become(now);
        if (told == 1) {
            spare.grip[t] = Math.min(TOP, spare.grip[t] + 5);
        } else if (told == 2) {
            spare.slit[t] = Math.max(0, spare.slit[t] - 1);
        }
        Span span = spare.spanOf(b, t, k);
        if (told == 0) {
            span.low = Math.max(0, span.low - 2);
        }
        return span.pairs();
    }

    /** How many pairs of TIGHT and FORCE are alike likely for THUMBS. */
    private int pairsInGrip(int t) {
        return (now.grip[t] + 1) * (TOP + 1);
    }

    private int forcesThatFit(int k, int wears) {
        int many = 0;
        for (int force = 0; force <= TOP; force++) {
            if (now.blow[k].wearBy(force) == wears) {
                many++;
            }
        }
        return many;
    }

    private int leastForceThatFits(int k, int wears) {
        for (int force = 0; force <= TOP; force++) {
            if (now.blow[k].wearBy(force) == wears) {
                return force;
            }
        }
        return NONE;
    }

    private int firstForged(int k, Shelf told) {
        for (int i = 0; i < told.size; i++) {
            if (leastForceThatFits(k, told.cells[i]) < 0) {
                return i;
            }
        }
        return NONE;
    }

    private int firstNotSo(int b, int t, int k, int tight, Shelf told, Shelf forces) {
        spare.become(now);
        for (int i = 0; i < told.size; i++) {
            boolean isTried = i < forces.size;
            int due = NONE;
            if (isTried) {
                due = spare.isSplit(b) ? 2 : spare.blowOnce(b, t, k, tight, forces.cells[i]);
            }
            // Only what is told is skipped, and so behind the TRY: that is done all the same and wears the BLADE.
            int was = told.cells[i];
            if (was != told.leastOfSort() && (!isTried || was != due)) {
                return i;
            }
        }
        return NONE;
    }

    /** One walk: how many TRIES SOUND. */
    private int walkOnSpare() {
        int sounding = 0;
        for (int i = 0; i < TRIES_A_WALK; i++) {
            // All five are drawn for a SPLIT BLADE too: each TRY of a walk has its own five.
            int b = draw(spare.blades);
            int t = draw(spare.thumbs);
            int k = draw(spare.blows);
            int tight = draw(TOP + 1);
            int force = draw(TOP + 1);
            if (!spare.isSplit(b)) {
                sounding += spare.blowOnce(b, t, k, tight, force);
            }
        }
        return sounding;
    }

    private int draw(int below) {
        seed = seed * 1103515245 + 12345;
        int drawn = (seed & 0x7fffffff) / 65536;
        return below <= 0 ? 0 : drawn % below;
    }

    // ---- blows by their kinds; each class says only in what it is unlike the one it is under

    private static class Blow {
        final int kind;
        final int figure;

        Blow(int kind, int figure) {
            this.kind = kind;
            this.figure = figure;
        }

        int low(int breadth, int slit) {
            return breadth + slit;
        }

        int high(int itsLow, int wet) {
            return itsLow + 8 + wet;
        }

        int softest(int slit) {
            return 6 + 2 * slit;
        }

        int hardest(int itsSoftest) {
            return itsSoftest + 20;
        }

        int pitchAt(int breadth, int tight, int cup) {
            return 60 - breadth + tight;
        }

        int wearBy(int force) {
            return force / 10;
        }

        int costs() {
            return 3;
        }

        /** Throws this one's FAILURE, which the one who tosses knows by its class; comes back if it has none. */
        void fail() {
            if (figure != 0) {
                throw new IllegalStateException();
            }
        }
    }

    private static class Empty extends Blow {
        Empty(int kind, int figure) {
            super(kind, figure);
        }

        int softest(int slit) {
            return TOP + 1;
        }

        int costs() {
            return super.costs() - 1;
        }

        void fail() {
            // EMPTY ones have no FAILURE, whatever their FIGURE.
        }
    }

    private static class Sounding extends Blow {
        Sounding(int kind, int figure) {
            super(kind, figure);
        }

        int low(int breadth, int slit) {
            return Math.max(0, super.low(breadth, slit) - 2);
        }

        int wearBy(int force) {
            return super.wearBy(force) + 1;
        }

        int costs() {
            return super.costs() + figure;
        }

        void fail() {
            if (figure != 0) {
                throw new IllegalArgumentException();
            }
        }
    }

    private static final class Shrieking extends Sounding {
        Shrieking(int kind, int figure) {
            super(kind, figure);
        }

        int low(int breadth, int slit) {
            return super.low(breadth, slit) + 10;
        }

        int high(int itsLow, int wet) {
            return itsLow + (super.high(itsLow, wet) - itsLow) / 2;
        }

        int softest(int slit) {
            return 2 * super.softest(slit);
        }

        int pitchAt(int breadth, int tight, int cup) {
            return super.pitchAt(breadth, tight, cup) + 12;
        }

        int wearBy(int force) {
            return 2 * super.wearBy(force);
        }

        int costs() {
            return 2 * super.costs();
        }

        void fail() {
            if (figure != 0) {
                throw new UnsupportedOperationException();
            }
        }
    }

    private static final class Splitting extends Blow {
        Splitting(int kind, int figure) {
            super(kind, figure);
        }

        int hardest(int itsSoftest) {
            return super.hardest(itsSoftest) - figure;
        }

        int pitchAt(int breadth, int tight, int cup) {
            return super.pitchAt(breadth, tight, cup) + figure;
        }

        int wearBy(int force) {
            return super.wearBy(force) + figure;
        }

        int costs() {
            return super.costs() + 4;
        }
    }

    private static class Cupped extends Sounding {
        Cupped(int kind, int figure) {
            super(kind, figure);
        }

        int pitchAt(int breadth, int tight, int cup) {
            return super.pitchAt(breadth, tight, cup) - cup;
        }

        int costs() {
            return super.costs() + 2;
        }
    }

    private static final class Soft extends Cupped {
        Soft(int kind, int figure) {
            super(kind, figure);
        }

        int low(int breadth, int slit) {
            return super.low(breadth, slit) + 1;
        }

        int softest(int slit) {
            return super.softest(slit) / 2;
        }

        int hardest(int itsSoftest) {
            // "Half of that above its SOFTEST" is read as half of what a CUPPED one has above its own.
            return itsSoftest + (super.hardest(itsSoftest) - itsSoftest) / 2;
        }

        int wearBy(int force) {
            return 0;
        }

        int costs() {
            return super.costs() / 2;
        }
    }

    private static final class Slipped extends Empty {
        Slipped(int kind, int figure) {
            super(kind, figure);
        }

        int wearBy(int force) {
            return super.wearBy(force) + 1;
        }

        int costs() {
            return super.costs() + figure;
        }
    }

    // ---- what is held

    /** What of TIGHT and FORCE a blow by a BLADE and THUMBS wants. */
    private static final class Span {
        int low;
        int high;
        int grip;
        int softest;
        int hardest;

        int topTight() {
            return Math.min(TOP, Math.min(high, grip));
        }

        int topForce() {
            return Math.min(TOP, hardest);
        }

        /** With how many pairs of TIGHT and FORCE it SOUNDS. */
        int pairs() {
            return Math.max(0, topTight() - low + 1) * Math.max(0, topForce() - softest + 1);
        }

        int wrongBits(int tight, int force) {
            int bits = tight < low ? 1 : 0;
            bits |= tight > high ? 2 : 0;
            bits |= tight > grip ? 4 : 0;
            bits |= force < softest ? 8 : 0;
            bits |= force > hardest ? 16 : 0;
            return bits;
        }
    }

    /** BLADES, THUMBS and BLOWS; its numbers b, t, k are asked for by has... before they are used. */
    private static final class Hedge {
        int blades;
        final int[] breadth = new int[MOST_BLADES];
        final int[] length = new int[MOST_BLADES];
        final int[] wet = new int[MOST_BLADES];
        final int[] wear = new int[MOST_BLADES];
        int thumbs;
        final int[] slit = new int[MOST_THUMBS];
        final int[] grip = new int[MOST_THUMBS];
        int blows;
        final Blow[] blow = new Blow[MOST_BLOWS];
        /** One for all questions, since what a run makes is counted; each question fills it anew. */
        private final Span span = new Span();

        void become(Hedge other) {
            blades = other.blades;
            System.arraycopy(other.breadth, 0, breadth, 0, MOST_BLADES);
            System.arraycopy(other.length, 0, length, 0, MOST_BLADES);
            System.arraycopy(other.wet, 0, wet, 0, MOST_BLADES);
            System.arraycopy(other.wear, 0, wear, 0, MOST_BLADES);
            thumbs = other.thumbs;
            System.arraycopy(other.slit, 0, slit, 0, MOST_THUMBS);
            System.arraycopy(other.grip, 0, grip, 0, MOST_THUMBS);
            blows = other.blows;
            for (int k = 0; k < MOST_BLOWS; k++) {
                blow[k] = other.blow[k];
            }
        }

        boolean hasBlade(int b) {
            return b >= 0 && b < blades;
        }

        boolean hasThumbs(int t) {
            return t >= 0 && t < thumbs;
        }

        boolean hasBlow(int k) {
            return k >= 0 && k < blows;
        }

        boolean hasAll(int b, int t, int k) {
            return hasBlade(b) && hasThumbs(t) && hasBlow(k);
        }

        int addBlade(int itsBreadth, int itsLength, int itsWet) {
            if (isOut(itsBreadth, 1, 24) || isOut(itsLength, 1, 24) || isOut(itsWet, 0, 9)) {
                return NO_SUCH;
            }
            if (blades >= MOST_BLADES) {
                return NO_ROOM;
            }
            breadth[blades] = itsBreadth;
            length[blades] = itsLength;
            wet[blades] = itsWet;
            wear[blades] = 0;
            return blades++;
        }

        int addThumbs(int itsSlit, int itsGrip) {
            if (isOut(itsSlit, 0, 9) || isOut(itsGrip, 0, TOP)) {
                return NO_SUCH;
            }
            if (thumbs >= MOST_THUMBS) {
                return NO_ROOM;
            }
            slit[thumbs] = itsSlit;
            grip[thumbs] = itsGrip;
            return thumbs++;
        }

        int addBlow(Blow another) {
            if (another == null) {
                return NO_SUCH;
            }
            if (blows >= MOST_BLOWS) {
                return NO_ROOM;
            }
            blow[blows] = another;
            return blows++;
        }

        boolean isSplit(int b) {
            return wear[b] > length[b] + wet[b];
        }

        int splitBits() {
            int bits = 0;
            for (int b = 0; b < blades; b++) {
                if (isSplit(b)) {
                    bits |= 1 << b;
                }
            }
            return bits;
        }

        Span spanOf(int b, int t, int k) {
            span.low = blow[k].low(breadth[b], slit[t]);
            span.high = blow[k].high(span.low, wet[b]);
            span.grip = grip[t];
            span.softest = blow[k].softest(slit[t]);
            span.hardest = blow[k].hardest(span.softest);
            return span;
        }

        /** A TRY with a BLADE that is not SPLIT: 1 it SOUNDS, 0 not. */
        int blowOnce(int b, int t, int k, int tight, int force) {
            wear[b] += blow[k].wearBy(force);
            return spanOf(b, t, k).wrongBits(tight, force) == 0 ? 1 : 0;
        }
    }

    /** Holds nothing, a BLOW or a ROW; the cells of a ROW are made once and used for every later one. */
    private static final class Shelf {
        Blow blow;
        boolean isRow;
        int sort;
        int size;
        final int[] cells = new int[MOST_ELEMENTS];

        boolean isEmpty() {
            return blow == null && !isRow;
        }

        void holdNothing() {
            blow = null;
            isRow = false;
            size = 0;
        }

        void holdBlow(Blow one) {
            holdNothing();
            blow = one;
        }

        void holdRow(int itsSort, int itsSize) {
            blow = null;
            isRow = true;
            sort = itsSort;
            size = itsSize;
            Arrays.fill(cells, 0);
        }

        boolean hasPlace(int i) {
            return i >= 0 && i < size;
        }

        boolean hasPlaces(int from, int n) {
            return from >= 0 && from <= size && n <= size - from;
        }

        int cutToSort(int v) {
            if (sort == SORT_BYTES) {
                return (byte) v;
            }
            return sort == SORT_SHORTS ? (short) v : v;
        }

        int leastOfSort() {
            if (sort == SORT_BYTES) {
                return LEAST_BYTE;
            }
            return sort == SORT_SHORTS ? LEAST_SHORT : LEAST_INT;
        }

        /** Beyond the end 0, which no STATEMENT has. */
        int byteAt(int i) {
            return hasPlace(i) ? cells[i] : 0;
        }

        int digitAt(int i) {
            return byteAt(i) - '0';
        }

        int twoDigitsAt(int i) {
            return 10 * digitAt(i) + digitAt(i + 1);
        }
    }
}
