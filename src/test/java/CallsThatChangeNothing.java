import java.util.ArrayList;
import java.util.List;
import java.util.function.ToLongFunction;

/** Refused calls, and calls that only ask, on one and the same object; for each what it answers. */
final class CallsThatChangeNothing {
    private static final long OF_LONGS = 1000000000L;

    static final class Call {
        final String name;
        final long due;
        final ToLongFunction<BladeBetweenThumbs> made;

        Call(String name, long due, ToLongFunction<BladeBetweenThumbs> made) {
            this.name = name;
            this.due = due;
            this.made = made;
        }
    }

    private final List<Call> calls = new ArrayList<>();

    private void add(String name, long due, ToLongFunction<BladeBetweenThumbs> made) {
        calls.add(new Call(name, due, made));
    }

    /** Full of BLADES (the last SPLIT), THUMBS and BLOWS, with an IMAGE of less; SHELVES as told here. */
    static BladeBetweenThumbs object() {
        BladeBetweenThumbs x = Due.told("b06103;t530;k03;");
        x.image();
        Due.text(x, 0, "b12220;b01240;b24249;b03101;b05010;t240;t001;t960;k25;k36;k49;k58;k62;y5010060;y0111020;");
        x.hedge(0);
        Due.text(x, 0, "y0000000;k0");
        Due.text(x, 1, "y0000060;t960;");
        x.keep(2, 1, 2, 5);
        x.keep(3, 1, 1, 5);
        Due.numbers(x, 4, 1, 6, 0, 7);
        Due.numbers(x, 5, 2, 61, -1, 0);
        x.row(6, 0, 0);
        return x;
    }

    static List<Call> refused() {
        CallsThatChangeNothing c = new CallsThatChangeNothing();
        c.refusedOfHedge();
        c.refusedOfAsking();
        c.refusedOfShelves();
        return c.calls;
    }

    private void refusedOfHedge() {
        add("hedge(8)", -1, x -> x.hedge(8));
        add("hedge(7)", -11, x -> x.hedge(7));
        add("hedge(2)", -12, x -> x.hedge(2));
        add("hedge(4)", -12, x -> x.hedge(4));
        add("hedge(0)", -1011, x -> x.hedge(0));
        add("hedge(1)", -2009, x -> x.hedge(1));
        add("hedge(6)", -1000, x -> x.hedge(6));
        add("blade(6, 0)", -1, x -> x.blade(6, 0));
        add("thumbs(4, 0)", -1, x -> x.thumbs(4, 0));
        add("blow(6, 0)", -1, x -> x.blow(6, 0));
        add("grows(0, 1, 0)", -1, x -> x.grows(0, 1, 0));
        add("grows(1, 1, 0)", -2, x -> x.grows(1, 1, 0));
        add("learns(-1)", -1, x -> x.learns(-1));
        add("learns(7)", -11, x -> x.learns(7));
        add("learns(4)", -12, x -> x.learns(4));
        add("learns(2)", -2, x -> x.learns(2));
        add("comes(10, 0)", -1, x -> x.comes(10, 0));
        add("comes(0, 0)", -2, x -> x.comes(0, 0));
        add("wets(0, 10)", -1, x -> x.wets(0, 10));
        add("wets(6, 0)", -1, x -> x.wets(6, 0));
        add("span(0, 0, 0, 4)", -1, x -> x.span(0, 0, 0, 4));
        add("sounds(0, 0, 0, 61, 0)", -1, x -> x.sounds(0, 0, 0, 61, 0));
        add("pitch(0, 0, 0, 10)", OF_LONGS + 1, x -> x.pitch(0, 0, 0, 10));
        add("tries(0, 0, 0, 0, 61)", -1, x -> x.tries(0, 0, 0, 0, 61));
        add("tries(0, 4, 0, 0, 60)", -1, x -> x.tries(0, 4, 0, 0, 60));
        add("tries(5, 0, 0, 0, 60)", -3, x -> x.tries(5, 0, 0, 0, 60));
    }

    private void refusedOfAsking() {
        add("where(0, 0, 0, 3)", -1, x -> x.where(0, 0, 0, 3));
        add("where(0, 2, 0, 1)", -4, x -> x.where(0, 2, 0, 1));
        add("which(4, 0)", -1, x -> x.which(4, 0));
        add("wrong(0, 0, 0, 0, 61)", -1, x -> x.wrong(0, 0, 0, 0, 61));
        add("next(0, 0, 0, 61, 0)", -1, x -> x.next(0, 0, 0, 61, 0));
        add("next(0, 2, 0, 60, 0)", -4, x -> x.next(0, 2, 0, 60, 0));
        add("halves(6, 0, 0)", -1, x -> x.halves(6, 0, 0));
        add("ways(0, 100)", -1, x -> x.ways(0, 100));
        add("tune(0, 1000000, 0)", -1, x -> x.tune(0, 1000000, 0));
        add("lasts(0, 6, 0)", -1, x -> x.lasts(0, 6, 0));
        add("lasts(5, 0, 0)", -3, x -> x.lasts(5, 0, 0));
        add("bestForce(0, 2, 0)", -4, x -> x.bestForce(0, 2, 0));
        add("bestForce(0, 4, 0)", -1, x -> x.bestForce(0, 4, 0));
        add("bestForce(5, 0, 0)", -3, x -> x.bestForce(5, 0, 0));
        add("clash(0, 61, 0)", -1, x -> x.clash(0, 61, 0));
        add("heard(100, 0)", -1, x -> x.heard(100, 0));
        add("nearer(13, 0, 0, 0)", OF_LONGS + 1, x -> x.nearer(13, 0, 0, 0));
        add("often(0, 11)", -1, x -> x.often(0, 11));
        add("often(1, 0)", -4, x -> x.often(1, 0));
        add("answer(10, 0, 0)", OF_LONGS + 1, x -> x.answer(10, 0, 0));
        add("telling(0, 0, 0, 4)", -1, x -> x.telling(0, 0, 0, 4));
        add("odds(0, 0, 0, 2)", OF_LONGS + 1, x -> x.odds(0, 0, 0, 2));
        add("enough(0, 0, 6)", -1, x -> x.enough(0, 0, 6));
        add("enough(0, 2, 0)", -4, x -> x.enough(0, 2, 0));
        add("walks(21, 0, 0)", -1, x -> x.walks(21, 0, 0));
    }

    private void refusedOfShelves() {
        add("heap(6, 4, 0)", -1, x -> x.heap(6, 4, 0));
        add("heap(0, 7, 0)", -11, x -> x.heap(0, 7, 0));
        add("heap(0, 2, 0)", -12, x -> x.heap(0, 2, 0));
        add("heap(0, 4, 0)", -4, x -> x.heap(0, 4, 0));
        add("forged(0, 8)", -1, x -> x.forged(0, 8));
        add("forged(0, 7)", -11, x -> x.forged(0, 7));
        add("forged(0, 2)", -12, x -> x.forged(0, 2));
        add("remainder(8, 0, 0)", OF_LONGS + 1, x -> x.remainder(8, 0, 0));
        add("remainder(7, 0, 0)", OF_LONGS + 11, x -> x.remainder(7, 0, 0));
        add("remainder(2, 0, 0)", OF_LONGS + 12, x -> x.remainder(2, 0, 0));
        add("remainder(4, 0, 3)", OF_LONGS + 13, x -> x.remainder(4, 0, 3));
        add("remainder(4, 0, 1)", OF_LONGS + 16, x -> x.remainder(4, 0, 1));
        add("judge(600, 0, 4, 4)", -1, x -> x.judge(600, 0, 4, 4));
        add("judge(0, 0, 4, 7)", -11, x -> x.judge(0, 0, 4, 7));
        add("judge(0, 0, 2, 4)", -12, x -> x.judge(0, 0, 2, 4));
        add("judge(0, 0, 4, 5)", -13, x -> x.judge(0, 0, 4, 5));
        add("count(6)", -1, x -> x.count(6));
        add("keep(0, 2, 0, 0)", -1, x -> x.keep(0, 2, 0, 0));
        add("keep(0, 1, 8, 0)", -1, x -> x.keep(0, 1, 8, 0));
        add("keep(2, 1, 0, 10)", -1, x -> x.keep(2, 1, 0, 10));
        add("keep(8, 0, 0, 0)", -1, x -> x.keep(8, 0, 0, 0));
        add("row(4, 3, 1)", -1, x -> x.row(4, 3, 1));
        add("row(4, 0, 101)", -1, x -> x.row(4, 0, 101));
        add("row(4, 0, -1)", -14, x -> x.row(4, 0, -1));
        add("put(8, 0, 9)", -1, x -> x.put(8, 0, 9));
        add("put(7, 0, 9)", -11, x -> x.put(7, 0, 9));
        add("put(2, 0, 9)", -12, x -> x.put(2, 0, 9));
        add("put(4, 3, 9)", -13, x -> x.put(4, 3, 9));
        add("put(6, 0, 9)", -13, x -> x.put(6, 0, 9));
        add("copy(8, 0, 4, 0, 1)", -1, x -> x.copy(8, 0, 4, 0, 1));
        add("copy(4, 0, 7, 0, 1)", -11, x -> x.copy(4, 0, 7, 0, 1));
        add("copy(4, 0, 2, 0, 1)", -12, x -> x.copy(4, 0, 2, 0, 1));
        add("copy(4, 0, 5, 0, 1)", -12, x -> x.copy(4, 0, 5, 0, 1));
        add("copy(4, 0, 4, 1, 3)", -13, x -> x.copy(4, 0, 4, 1, 3));
        add("copy(4, 1, 4, 0, 3)", -13, x -> x.copy(4, 1, 4, 0, 3));
        add("copy(4, 1, 4, 0, -1)", -13, x -> x.copy(4, 1, 4, 0, -1));
        add("cost(8)", -1, x -> x.cost(8));
        add("cost(7)", -11, x -> x.cost(7));
        add("cost(4)", -12, x -> x.cost(4));
        add("toss(8)", -1, x -> x.toss(8));
        add("toss(7)", -11, x -> x.toss(7));
        add("toss(4)", -12, x -> x.toss(4));
        add("toss(3)", -15, x -> x.toss(3));
    }

    /** Calls that the document tells of no change by; their answers are looked at elsewhere. */
    static List<Call> asking() {
        CallsThatChangeNothing c = new CallsThatChangeNothing();
        c.add("blade(0, 3)", 3, x -> x.blade(0, 3));
        c.add("thumbs(3, 1)", 60, x -> x.thumbs(3, 1));
        c.add("blow(3, 2)", 12, x -> x.blow(3, 2));
        c.add("span(0, 0, 0, 0)", 11, x -> x.span(0, 0, 0, 0));
        c.add("sounds(0, 0, 0, 11, 16)", 1, x -> x.sounds(0, 0, 0, 11, 16));
        c.add("pitch(0, 0, 11, 0)", 65, x -> x.pitch(0, 0, 11, 0));
        c.add("where(0, 0, 0, 0)", 252, x -> x.where(0, 0, 0, 0));
        c.add("whoCan()", 15, x -> x.whoCan());
        c.add("which(0, 0)", 0, x -> x.which(0, 0));
        c.add("wrong(0, 0, 0, 0, 0)", 9, x -> x.wrong(0, 0, 0, 0, 0));
        c.add("next(0, 0, 0, 0, 0)", 1116, x -> x.next(0, 0, 0, 0, 0));
        c.add("halves(0, 0, 0)", 2, x -> x.halves(0, 0, 0));
        c.add("tune(0, 606162, 1)", 3, x -> x.tune(0, 606162, 1));
        c.add("lasts(0, 0, 10)", 11, x -> x.lasts(0, 0, 10));
        c.add("bestForce(0, 0, 0)", 16, x -> x.bestForce(0, 0, 0));
        c.add("clash(0, 0, 1)", 5, x -> x.clash(0, 0, 1));
        c.add("telling(0, 0, 0, 2)", 252, x -> x.telling(0, 0, 0, 2));
        c.add("telling(0, 0, 0, 3)", 0, x -> x.telling(0, 0, 0, 3));
        c.add("odds(0, 0, 0, 0)", 252, x -> x.odds(0, 0, 0, 0));
        c.add("enough(0, 0, 0)", 8, x -> x.enough(0, 0, 0));
        c.add("heap(3, 6, 0)", 0, x -> x.heap(3, 6, 0));
        c.add("forged(0, 4)", 2, x -> x.forged(0, 4));
        c.add("remainder(4, 0, 2)", 6, x -> x.remainder(4, 0, 2));
        c.add("judge(0, 11, 4, 4)", 0, x -> x.judge(0, 11, 4, 4));
        c.add("walks(20, 1, 1)", 39, x -> x.walks(20, 1, 1));
        c.add("count(4)", 10, x -> x.count(4));
        c.add("element(4, 2)", 7, x -> x.element(4, 2));
        c.add("cost(2)", 8, x -> x.cost(2));
        c.add("toss(2)", 105, x -> x.toss(2));
        return c.calls;
    }
}
