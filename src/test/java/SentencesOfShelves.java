import java.util.Arrays;

/** Terms, III, and promises 37 to 46, sentence by sentence: the image, shelves, refusals. */
final class SentencesOfShelves {
    private static final int LEAST = Integer.MIN_VALUE;
    private static final int MOST = Integer.MAX_VALUE;
    private static final int[] NO_SHELF = {-1, 8, LEAST, MOST};
    private static final int ILLEGAL_ARGUMENT = 1;
    private static final int ILLEGAL_STATE = 2;
    private final Sentences s;

    SentencesOfShelves(Sentences s) {
        this.s = s;
    }

    void all() {
        shelves();
        rows();
        lowestBits();
        refusalsOfShelves();
        image();
        saidOnceMore();
        whatStays();
        refusals();
        promises37To39();
        promises40And41();
        promises42And43();
        promise44();
        promises45And46();
    }

    /** SHELF 0 a ROW of bytes, 1 a BLOW, 2 nothing, 3 shorts, 4 ints, 5 a ROW without elements. */
    private static BladeBetweenThumbs someOfEach() {
        BladeBetweenThumbs x = Due.told("b05010;t160;k00;");
        Due.numbers(x, 0, 0, 1, 2, 3);
        x.keep(1, 1, 2, 4);
        Due.numbers(x, 3, 1, 4, 5, 6);
        Due.numbers(x, 4, 2, 7, 8, 9);
        x.row(5, 2, 0);
        return x;
    }

    private void elements(String when, BladeBetweenThumbs x, int d, int... want) {
        for (int i = 0; i < want.length; i++) {
            s.is(when + ": element(" + d + ", " + i + ")", x.element(d, i), want[i]);
        }
        s.thrown(when + ": element(" + d + ", " + want.length + ")", x, d, want.length, ILLEGAL_STATE);
    }

    // ---- Terms, III

    private void shelves() {
        s.says("III. SHELVES 0 .. 7 each hold nothing (at first), a BLOW, a ROW.");
        BladeBetweenThumbs x = new BladeBetweenThumbs();
        for (int d = 0; d < 8; d++) {
            s.is("nothing at first on " + d, x.cost(d), -11);
            s.is("a BLOW on " + d, x.keep(d, 1, 4, d), 0);
            s.is("it is there", x.cost(d), 7);
        }
        for (int d = 0; d < 8; d++) {
            s.is("its own on " + d, x.toss(d), d == 0 ? -15 : d);
            s.is("a ROW on " + d, x.row(d, 2, d), 0);
            s.is("it is there", x.cost(d), -12);
            s.thrown("its last place", x, d, d - 1, d == 0 ? ILLEGAL_STATE : 0);
            s.thrown("no place behind it", x, d, d, ILLEGAL_STATE);
            s.is("a BLOW again on " + d, x.keep(d, 1, 4, d), 0);
            s.thrown("no ROW any more", x, d, 0, ILLEGAL_STATE);
            s.is("nothing again on " + d, x.keep(d, 0, 0, 0), 0);
            s.is("it is there no more", x.cost(d), -11);
        }
        for (int d : NO_SHELF) {
            s.is("SHELF " + d, x.cost(d), -1);
        }
    }

    private void rows() {
        s.says("A ROW has a SORT (0 bytes, 1 shorts, 2 ints) and 0 .. 100 elements, 0 at first;");
        BladeBetweenThumbs x = new BladeBetweenThumbs();
        for (int sort = 0; sort < 3; sort++) {
            s.is("100 elements", x.row(sort, sort, 100), 0);
            for (int i = 0; i < 100; i++) {
                s.is("0 at first", x.element(sort, i), 0);
                x.put(sort, i, 1);
            }
            s.thrown("place 100", x, sort, 100, ILLEGAL_STATE);
            s.is("place 100", x.put(sort, 100, 1), -13);
            s.is("101 elements", x.row(sort, sort, 101), -1);
            s.is("-1 elements", x.row(sort, sort, -1), -14);
            s.is("they are there still", x.element(sort, 99), 1);
            s.is("one element", x.row(sort, sort, 1), 0);
            s.is("0 again", x.element(sort, 0), 0);
            s.thrown("place 1", x, sort, 1, ILLEGAL_STATE);
            s.is("100 elements again", x.row(sort, sort, 100), 0);
            s.is("0 at first, though they were 1 once", x.element(sort, 99), 0);
            s.is("no elements", x.row(sort, sort, 0), 0);
            s.thrown("place 0", x, sort, 0, ILLEGAL_STATE);
            s.is("place 0", x.put(sort, 0, 1), -13);
        }
        s.is("SORT -1", x.row(0, -1, 1), -1);
        s.is("SORT 3", x.row(0, 3, 1), -1);
    }

    private void lowestBits() {
        s.says("what is put in keeps its lowest bits.");
        int[][] bytes = {{127, 127}, {128, -128}, {255, -1}, {256, 0}, {-128, -128}, {-129, 127}, {-256, 0}, {MOST, -1},
            {LEAST, 0}};
        int[][] shorts = {{32767, 32767}, {32768, -32768}, {65535, -1}, {65536, 0}, {-32768, -32768}, {-32769, 32767},
            {-65536, 0}, {MOST, -1}, {LEAST, 0}};
        int[][] ints = {{MOST, MOST}, {LEAST, LEAST}, {65536, 65536}, {-129, -129}, {0, 0}};
        int[][][] all = {bytes, shorts, ints};
        BladeBetweenThumbs x = new BladeBetweenThumbs();
        for (int sort = 0; sort < 3; sort++) {
            x.row(sort, sort, 2);
            for (int[] v : all[sort]) {
                s.is("put " + v[0], x.put(sort, 1, v[0]), 0);
                s.is("what is kept of " + v[0] + ", SORT " + sort, x.element(sort, 1), v[1]);
                s.is("the one beside it", x.element(sort, 0), 0);
            }
        }
    }

    private void refusalsOfShelves() {
        BladeBetweenThumbs x = someOfEach();
        s.says("Their REFUSALS: -11 nothing is held where something is wanted;");
        long[] nothing = {x.hedge(2), x.learns(2), x.heap(0, 2, 0), x.forged(0, 2), x.judge(0, 0, 2, 4),
            x.judge(0, 0, 4, 2), x.put(2, 0, 0), x.copy(2, 0, 4, 0, 0), x.copy(4, 0, 2, 0, 0), x.cost(2), x.toss(2),
            1000000000 - x.remainder(2, 0, 0)};
        for (int i = 0; i < nothing.length; i++) {
            s.is("call " + i, nothing[i], -11);
        }
        s.says("-12 it is of another kind;");
        long[] kinds = {x.hedge(1), x.hedge(3), x.hedge(4), x.learns(0), x.learns(3), x.learns(5), x.heap(0, 1, 0),
            x.forged(0, 1), x.judge(0, 0, 1, 4), x.judge(0, 0, 4, 1), x.put(1, 0, 0), x.copy(1, 0, 4, 0, 0),
            x.copy(4, 0, 1, 0, 0), x.copy(0, 0, 3, 0, 0), x.copy(3, 0, 4, 0, 0), x.copy(4, 0, 0, 0, 0), x.cost(0),
            x.cost(5), x.toss(4), 1000000000 - x.remainder(1, 0, 0)};
        for (int i = 0; i < kinds.length; i++) {
            s.is("call " + i, kinds[i], -12);
        }
        s.says("-13 a place that isn't there (a number or a size that isn't as told, too);");
        x.put(3, 2, 61);
        long[] places = {x.put(4, 3, 0), x.put(4, -1, 0), x.put(5, 0, 0), x.copy(4, 3, 4, 0, 1), x.copy(4, 0, 4, 3, 1),
            x.copy(4, 0, 4, 0, -1), x.copy(4, 0, 4, 0, 4), x.judge(0, 0, 4, 3), 1000000000 - x.remainder(4, 3, 0),
            1000000000 - x.remainder(4, 0, 3), 1000000000 - x.remainder(5, 0, 0)};
        for (int i = 0; i < places.length; i++) {
            s.is("call " + i, places[i], -13);
        }
        s.says("-14 a size below 0;");
        s.is("-1", x.row(4, 2, -1), -14);
        s.is("the least", x.row(4, 2, LEAST), -14);
        s.is("0 is none below 0", x.row(4, 2, 0), 0);
        s.says("-15 a FAILURE that is none.");
        x.keep(1, 1, 0, 0);
        s.is("FIGURE 0", x.toss(1), -15);
        x.keep(1, 1, 0, 1);
        s.is("FIGURE 1", x.toss(1), 1);
    }

    private void image() {
        s.says("THE IMAGE: all that there is, but SHELVES (and THE IMAGE);");
        BladeBetweenThumbs x = CallsThatChangeNothing.object();
        x.image();
        String then = State.of(CallsThatChangeNothing.object()).replaceAll(" shelf.*", "");
        x.wets(0, 9);
        x.tries(1, 0, 0, 0, 60);
        x.keep(7, 1, 5, 5);
        s.is("all is kept", State.of(x).endsWith("image 6" + then) ? 1 : 0, 1);
        BladeBetweenThumbs y = someOfEach();
        y.image();
        y.image();
        s.is("THE IMAGE is none of it: RESTORED twice", y.restore() + y.restore(), 2);
        s.says("RESTORED all is as it was then.");
        BladeBetweenThumbs z = new BladeBetweenThumbs();
        z.image();
        Due.text(z, 0, "b01010;t060;k49;y0000060;");
        z.hedge(0);
        s.is("it was empty", z.restore(), 0);
        for (int what = 0; what < 6; what++) {
            s.is("count(" + what + ")", z.count(what), 0);
        }
        z.hedge(0);
        z.image();
        z.wets(0, 9);
        z.restore();
        s.is("WET", z.blade(0, 2), 0);
        s.is("WEAR", z.blade(0, 3), 15);
        s.is("SPLIT", z.blade(0, 4), 1);
        for (int i = 0; i < 5; i++) {
            z.grows(2, 2, 2);
            z.comes(2, 2);
            z.keep(1, 1, 7, 9);
            z.learns(1);
        }
        s.is("full, and RESTORED", z.restore(), 1);
        s.is("THUMBS", z.count(1), 1);
        s.is("BLOWS", z.count(2), 1);
        s.is("there is room again", z.grows(2, 2, 2), 1);
    }

    private void saidOnceMore() {
        s.says("Said once more: of a KIND (or SORT) \"n more\", \"n less\" without more words is: than what the one it "
            + "is under has;");
        BladeBetweenThumbs x = Due.told("b06103;t530;k09;k29;k39;k49;k79;");
        s.is("SOUNDING LOW 2 less than a BLOW's", x.span(0, 0, 0, 0) - x.span(0, 0, 1, 0), 2);
        s.is("SHRIEKING LOW 10 more than a SOUNDING's", x.span(0, 0, 2, 0) - x.span(0, 0, 1, 0), 10);
        s.is("SPLITTING PITCH FIGURE more than a BLOW's", x.pitch(0, 3, 0, 0) - x.pitch(0, 0, 0, 0), 9);
        s.is("SOUNDING WEARS 1 more than a BLOW", x.blow(1, 2) - x.blow(0, 2), 1);
        s.is("SLIPPED WEARS 1 more than an EMPTY one", x.blow(4, 2) - x.blow(0, 2), 1);
        s.says("\"a by b, cut\" is a divided by b, toward 0;");
        s.is("59 by 10", Due.told("k00;b24249;t000;y0000059;").count(4), 5);
        s.is("half of 17", Due.told("b01019;t000;k30;").span(0, 0, 0, 1) - 10, 8);
        s.says("\"a and b\" of two numbers is their sum;");
        s.is("BREADTH and SLIT", x.span(0, 0, 0, 0), 11);
        s.is("LENGTH and WET", Due.told("b01011;t060;k00;y0000020;").blade(0, 4), 0);
        s.says("numbers in THE TEXT have just as many digits as told;");
        String[] texts = {"b1010;", "b001010;", "b010100;", "t00;", "t0000;", "k0;", "k000;", "y000000;", "y00000000;"};
        int[] places = {5, 6, 6, 3, 4, 2, 3, 7, 8};
        for (int i = 0; i < texts.length; i++) {
            BladeBetweenThumbs y = new BladeBetweenThumbs();
            Due.text(y, 0, texts[i]);
            s.is(texts[i], y.hedge(0), -1000 - places[i]);
        }
        s.says("STATEMENTS are tried one behind the other, each on what those ahead of it made, and the first that "
            + "can't be done so is told (kind 2).");
        String[] orders = {"y0000000;b01010;t060;k00;", "b01010;y0000000;t060;k00;", "b01010;t060;y0000000;k00;",
            "b01010;t060;k00;y0000000;", "b01010;t060;k00;y0000060;y0000000;", "b01010;t060;k80;k90;",
            "t060;t960;t961;b00000;"};
        int[] due = {-2000, -2007, -2012, 4, -2025, -2012, -2010};
        for (int i = 0; i < orders.length; i++) {
            BladeBetweenThumbs y = new BladeBetweenThumbs();
            Due.text(y, 0, orders[i]);
            s.is(orders[i], y.hedge(0), due[i]);
        }
    }

    private void whatStays() {
        s.says("The ROW of a text, and what is taken from a SHELF, stay there;");
        BladeBetweenThumbs x = new BladeBetweenThumbs();
        Due.text(x, 0, "t060;");
        s.is("four times", x.hedge(0) + x.hedge(0) + x.hedge(0) + x.hedge(0), 4);
        s.is("a FAULT", x.hedge(0), -2000);
        elements("the text", x, 0, 't', '0', '6', '0', ';');
        x.keep(1, 1, 3, 9);
        s.is("six times", x.learns(1) + x.learns(1) + x.learns(1) + x.learns(1) + x.learns(1) + x.learns(1), 15);
        s.is("no room", x.learns(1), -2);
        s.is("it is there", x.cost(1), 24);
        x.keep(1, 1, 0, 1);
        s.is("what was taken stays what it was", x.blow(5, 0), 3);
        s.says("when THE IMAGE is RESTORED, SHELVES stay as they are.");
        BladeBetweenThumbs y = someOfEach();
        y.image();
        y.keep(0, 0, 0, 0);
        y.keep(1, 1, 3, 9);
        y.keep(2, 1, 0, 7);
        y.put(3, 0, 77);
        y.row(4, 0, 1);
        y.restore();
        s.is("nothing for a ROW", y.toss(0), -11);
        s.is("another BLOW", y.toss(1), 224);
        s.is("a BLOW for nothing", y.toss(2), 7);
        elements("another element", y, 3, 77, 5, 6);
        elements("another ROW", y, 4, 0);
    }

    private void refusals() {
        s.says("REFUSALS (answers; nothing changes):");
        String before = State.of(CallsThatChangeNothing.object());
        for (CallsThatChangeNothing.Call call : CallsThatChangeNothing.refused()) {
            BladeBetweenThumbs x = CallsThatChangeNothing.object();
            s.is(call.name, call.made.applyAsLong(x), call.due);
            s.is(call.name + " changes nothing", State.of(x).equals(before) ? 1 : 0, 1);
        }
        BladeBetweenThumbs y = CallsThatChangeNothing.object();
        s.thrown("no such SHELF", y, 8, 0, ILLEGAL_ARGUMENT);
        s.thrown("no such place", y, 4, 3, ILLEGAL_STATE);
        s.thrown("no ROW", y, 2, 0, ILLEGAL_STATE);
        s.is("what is thrown changes nothing", State.of(y).equals(before) ? 1 : 0, 1);
        for (CallsThatChangeNothing.Call call : CallsThatChangeNothing.asking()) {
            BladeBetweenThumbs x = CallsThatChangeNothing.object();
            s.is(call.name, call.made.applyAsLong(x), call.due);
            s.is(call.name + " changes nothing", State.of(x).equals(before) ? 1 : 0, 1);
        }
        s.says("-1 no such one, a number out of its range;");
        s.is("no such one", y.blade(6, 0), -1);
        s.is("out of its range", y.wets(0, 10), -1);
        s.says("-2 there is no room;");
        BladeBetweenThumbs full = CallsThatChangeNothing.object();
        s.is("BLADES", full.grows(1, 1, 0), -2);
        s.is("THUMBS", full.comes(0, 0), -2);
        s.is("BLOWS", full.learns(2), -2);
        s.says("-3 it is not as it must be (a SPLIT BLADE, where it is to be blown);");
        s.is("a TRY", full.tries(5, 0, 0, 0, 0), -3);
        s.is("LASTS", full.lasts(5, 0, 0), -3);
        s.is("BEST FORCE", full.bestForce(5, 0, 0), -3);
        s.is("no IMAGE", new BladeBetweenThumbs().restore(), -3);
        s.is("no BLADES", new BladeBetweenThumbs().walks(1, 0, 0), -3);
        s.says("-4 none.");
        s.is("none SOUNDS", full.where(0, 2, 0, 1), -4);
        s.is("no FORCE", full.bestForce(0, 2, 0), -4);
        orderOfRefusals();
        s.says("Of pitch(), remainder() they are 1000000000 less them; of longs likewise.");
        BladeBetweenThumbs z = someOfEach();
        s.is("pitch", z.pitch(1, 0, 0, 0), 1000000001);
        int[] shelves = {8, 2, 1, 5};
        int[] due = {1000000001, 1000000011, 1000000012, 1000000013};
        for (int i = 0; i < 4; i++) {
            s.is("remainder, SHELF " + shelves[i], z.remainder(shelves[i], 0, 0), due[i]);
        }
        s.is("remainder by 0", Due.told("t000;").remainder(0, 0, 0), 1000000011);
        s.is("nearer", z.nearer(13, 0, 0, 0), 1000000001L);
        s.is("answer", z.answer(10, 0, 0), 1000000001L);
        s.is("odds", z.odds(1, 0, 0, 0), 1000000001L);
    }

    private void orderOfRefusals() {
        s.says("Answers of several REFUSALS are the first one as they are told at the call.");
        BladeBetweenThumbs x = CallsThatChangeNothing.object();
        s.is("grows: -1, -2", x.grows(0, 1, 0), -1);
        s.is("comes: -1, -2", x.comes(0, 61), -1);
        s.is("learns: -1, -2", x.learns(8), -1);
        s.is("learns: -11, -2", x.learns(7), -11);
        s.is("learns: -12, -2", x.learns(4), -12);
        s.is("tries: -1, -3", x.tries(5, 0, 0, 61, 0), -1);
        s.is("lasts: -1, -3", x.lasts(5, 0, 61), -1);
        s.is("bestForce: -1, -3", x.bestForce(5, 0, 6), -1);
        s.is("walks: -1, -3", new BladeBetweenThumbs().walks(0, 0, 0), -1);
        s.is("where: -1, -4", x.where(0, 2, 0, 3), -1);
        s.is("next: -1, -4", x.next(0, 2, 0, 6061, 0), -1);
        s.is("often: -1, -4", x.often(12, 11), -1);
        s.is("telling: -1, -4", x.telling(0, 2, 0, 4), -1);
        s.is("heap: -1, -11", x.heap(0, 7, 2), -1);
        s.is("heap: -1, -12", x.heap(6, 2, 0), -1);
        s.is("heap: -1, -4", x.heap(0, 4, 2), -1);
        s.is("forged: -1, -11", x.forged(6, 7), -1);
        s.is("forged: -1, -12", x.forged(-1, 2), -1);
        s.is("remainder: -13, -16", x.remainder(4, 3, 1), 1000000013);
        s.is("judge: -1, -11", x.judge(0, 61, 7, 7), -1);
        s.is("judge: -1 of e, -11 of d", x.judge(0, 0, 7, 8), -1);
        s.is("judge: -11 of e, -12 of d", x.judge(0, 0, 2, 7), -11);
        s.is("judge: -12 of d, -13", x.judge(0, 0, 2, 5), -12);
        s.is("row: -1 of the SHELF, -14", x.row(8, 0, -1), -1);
        s.is("row: -1 of the SORT, -14", x.row(0, 3, -1), -1);
        s.is("copy: -1 of e, -11 of d", x.copy(7, 0, 8, 0, 0), -1);
        s.is("copy: -11 of e, -12 of d", x.copy(2, 0, 7, 0, 0), -11);
        s.is("copy: -12, -13", x.copy(4, 9, 5, 9, -1), -12);
        s.is("toss: -1, -15", x.toss(-1), -1);
        s.is("hedge: -12, a FAULT", x.hedge(5), -12);
        s.is("hedge: kind 1, kind 2", told("b00000;k0"), -1009);
    }

    private static int told(String text) {
        BladeBetweenThumbs x = new BladeBetweenThumbs();
        Due.text(x, 0, text);
        return x.hedge(0);
    }

    // ---- promises 37 to 46

    private void promises37To39() {
        s.promise(37, "THE IMAGE is taken: how many BLADES.");
        BladeBetweenThumbs x = new BladeBetweenThumbs();
        for (int b = 0; b <= 6; b++) {
            s.is("of " + b, x.image(), b);
            x.grows(1, 1, 0);
        }
        s.promise(38, "THE IMAGE is RESTORED: how many BLADES. -3 there is none.");
        s.is("six", x.restore(), 6);
        BladeBetweenThumbs y = Due.told("b01010;t060;k00;");
        s.is("none", y.restore(), -3);
        s.is("nothing changes", y.count(0) + y.count(1) + y.count(2), 3);
        y.image();
        y.grows(2, 2, 2);
        s.is("one", y.restore(), 1);
        y.image();
        y.grows(2, 2, 2);
        y.image();
        s.is("the last one taken", y.restore(), 2);
        s.is("it stays", y.restore(), 2);
        s.promise(39, "0 BLADES, 1 THUMBS, 2 BLOWS, 3 SPLIT ones (bits), 4 all WEAR, 5 all GRIP; -1 for others.");
        BladeBetweenThumbs z = Due.told("b01010;b24249;b01010;b24249;b24249;b01010;" + "t060;".repeat(4)
            + "k00;".repeat(5) + "k49;");
        int[] want = {6, 4, 6, 0, 0, 240};
        for (int what = 0; what < 6; what++) {
            s.is("all there can be, " + what, z.count(what), want[what]);
        }
        for (int b = 0; b < 6; b++) {
            z.tries(b, 0, 5, 0, 60);
        }
        s.is("SPLIT 0, 2 and 5", z.count(3), 1 + 4 + 32);
        s.is("WEAR of SPLIT ones, too", z.count(4), 90);
        s.is("no GRIP", Due.told("t900;").count(5), 0);
        int[] others = {-1, 6, LEAST, MOST};
        for (int what : others) {
            s.is("count(" + what + ")", z.count(what), -1);
        }
    }

    private void promises40And41() {
        s.promise(40, "SHELF d gets: what = 0 nothing (the others do not matter); 1 a BLOW of KIND k with a FIGURE: 0. "
            + "-1.");
        BladeBetweenThumbs x = new BladeBetweenThumbs();
        int[] any = {LEAST, -1, 0, 7, 8, 9, 10, MOST};
        for (int v : any) {
            x.keep(3, 1, 0, 9);
            s.is("nothing, KIND and FIGURE " + v, x.keep(3, 0, v, v), 0);
            s.is("nothing is there", x.toss(3), -11);
        }
        x.row(3, 2, 100);
        s.is("nothing for a ROW", x.keep(3, 0, 0, 0), 0);
        s.is("nothing is there", x.put(3, 0, 0), -11);
        for (int d : NO_SHELF) {
            s.is("SHELF " + d, x.keep(d, 1, 0, 0), -1);
            s.is("SHELF " + d + ", nothing", x.keep(d, 0, 0, 0), -1);
        }
        x.keep(3, 1, 0, 9);
        int[][] out = {{-1, 0, 0}, {2, 0, 0}, {LEAST, 0, 0}, {MOST, 0, 0}, {1, -1, 0}, {1, 8, 0}, {1, LEAST, 0},
            {1, MOST, 0}, {1, 0, -1}, {1, 0, 10}, {1, 0, LEAST}, {1, 0, MOST}, {1, 8, 10}};
        for (int[] o : out) {
            s.is("keep on 3, " + Arrays.toString(o), x.keep(3, o[0], o[1], o[2]), -1);
            s.is("what was there", x.toss(3), 9);
        }
        for (int d = 0; d < 8; d++) {
            s.is("KIND " + d + ", FIGURE 9", x.keep(d, 1, d, 9), 0);
            s.is("KIND " + d + ", FIGURE 0", x.keep(d, 1, d, 0), 0);
        }
        s.promise(41, "SHELF d gets a ROW of a SORT: 0. -1 (n above 100); -14.");
        s.is("for a BLOW", x.row(0, 2, 100), 0);
        s.is("for a ROW", x.row(0, 0, 0), 0);
        s.is("for nothing", new BladeBetweenThumbs().row(7, 1, 1), 0);
        Due.numbers(x, 0, 1, 8);
        int[][] bad = {{0, -1, 1, -1}, {0, 3, 1, -1}, {0, LEAST, 1, -1}, {0, MOST, 1, -1}, {0, 0, 101, -1},
            {0, 0, MOST, -1}, {0, 0, -1, -14}, {0, 0, LEAST, -14}, {0, 3, -1, -1}, {8, 0, -1, -1}, {-1, 0, -1, -1},
            {8, 0, 1, -1}, {-1, 0, 1, -1}, {LEAST, 0, 0, -1}, {MOST, 0, 0, -1}};
        for (int[] o : bad) {
            s.is("row" + Arrays.toString(o), x.row(o[0], o[1], o[2]), o[3]);
            elements("what was there", x, 0, 8);
        }
    }

    private void promises42And43() {
        s.promise(42, "Element i of the ROW becomes v: 0. -1, -11, -12, -13.");
        BladeBetweenThumbs x = someOfEach();
        s.is("the first", x.put(4, 0, 71), 0);
        s.is("the last", x.put(4, 2, 72), 0);
        int[] noPlace = {-1, 3, LEAST, MOST};
        for (int i : noPlace) {
            s.is("place " + i, x.put(4, i, 5), -13);
            s.is("place " + i + ", a BLOW", x.put(1, i, 5), -12);
            s.is("place " + i + ", nothing", x.put(2, i, 5), -11);
            s.is("place " + i + ", no SHELF", x.put(8, i, 5), -1);
        }
        for (int d : NO_SHELF) {
            s.is("SHELF " + d, x.put(d, 0, 5), -1);
        }
        s.is("a ROW without places", x.put(5, 0, 5), -13);
        elements("the others stay", x, 4, 71, 8, 72);
        s.promise(43, "Element i of the ROW. IllegalArgumentException: no such SHELF; IllegalStateException: no ROW, "
            + "no such place.");
        s.is("the first", x.element(4, 0), 71);
        s.is("the last", x.element(4, 2), 72);
        for (int d : NO_SHELF) {
            s.thrown("SHELF " + d, x, d, 0, ILLEGAL_ARGUMENT);
            s.thrown("SHELF " + d + ", no such place either", x, d, -1, ILLEGAL_ARGUMENT);
        }
        for (int i : noPlace) {
            s.thrown("place " + i, x, 4, i, ILLEGAL_STATE);
        }
        s.thrown("a BLOW", x, 1, 0, ILLEGAL_STATE);
        s.thrown("nothing", x, 2, 0, ILLEGAL_STATE);
        s.thrown("a ROW without places", x, 5, 0, ILLEGAL_STATE);
        x.keep(4, 1, 0, 0);
        s.thrown("a BLOW where a ROW was", x, 4, 0, ILLEGAL_STATE);
        x.keep(4, 0, 0, 0);
        s.thrown("nothing where a ROW was", x, 4, 0, ILLEGAL_STATE);
    }

    private void promise44() {
        s.promise(44, "n elements of the ROW in SHELF d from i on come to that in SHELF e from j on: n. -1, -11 "
            + "(either), -12 (no ROWS of one SORT), -13 (n below 0, too).");
        BladeBetweenThumbs x = someOfEach();
        Due.numbers(x, 6, 2, 1, 2, 3, 4, 5);
        s.is("all of one", x.copy(4, 0, 6, 2, 3), 3);
        elements("to the end of another", x, 6, 1, 2, 7, 8, 9);
        s.is("on itself, on", x.copy(6, 0, 6, 1, 4), 4);
        elements("on itself, on", x, 6, 1, 1, 2, 7, 8);
        s.is("on itself, back", x.copy(6, 2, 6, 0, 3), 3);
        elements("on itself, back", x, 6, 2, 7, 8, 7, 8);
        s.is("all on itself", x.copy(6, 0, 6, 0, 5), 5);
        elements("all on itself", x, 6, 2, 7, 8, 7, 8);
        s.is("none from the end to the end", x.copy(6, 5, 4, 3, 0), 0);
        s.is("none of a ROW without places", x.copy(5, 0, 5, 0, 0), 0);
        elements("the one that is taken from stays", x, 4, 7, 8, 9);
        int[][] out = {{4, 0, 6, 0, -1, -13}, {4, 0, 6, 0, LEAST, -13}, {4, 0, 6, 0, 4, -13}, {4, 1, 6, 0, 3, -13},
            {6, 0, 4, 0, 4, -13}, {6, 0, 4, 1, 3, -13}, {4, -1, 6, 0, 1, -13}, {4, 0, 6, -1, 1, -13},
            {4, 4, 6, 0, 0, -13}, {4, 0, 6, 6, 0, -13}, {4, LEAST, 6, 0, 1, -13}, {4, MOST, 6, 0, MOST, -13},
            {4, 1, 6, MOST, MOST, -13}, {4, 1, 6, 1, MOST, -13}, {4, -1, 6, -1, 0, -13}, {5, 0, 4, 0, 1, -13},
            {4, 0, 5, 0, 1, -13}, {3, 9, 4, 9, -1, -12}, {0, 0, 4, 0, 1, -12}, {1, 0, 4, 0, 1, -12},
            {4, 0, 1, 0, 1, -12}, {1, 0, 1, 0, 1, -12}, {2, 0, 1, 0, 1, -11}, {1, 0, 2, 0, 1, -11},
            {2, 0, 2, 0, -1, -11}, {8, 0, 2, 0, 1, -1}, {2, 0, 8, 0, 1, -1}, {-1, 0, 1, 0, 1, -1}, {1, 0, -1, 0, 1, -1},
            {LEAST, 0, MOST, 0, -1, -1}};
        for (int[] o : out) {
            s.is("copy" + Arrays.toString(o), x.copy(o[0], o[1], o[2], o[3], o[4]), o[5]);
        }
        elements("nothing changes", x, 4, 7, 8, 9);
        elements("nothing changes", x, 6, 2, 7, 8, 7, 8);
        BladeBetweenThumbs y = new BladeBetweenThumbs();
        y.row(0, 0, 100);
        y.row(1, 0, 100);
        y.put(0, 0, -128);
        y.put(0, 99, 127);
        s.is("100 elements", y.copy(0, 0, 1, 0, 100), 100);
        s.is("the first", y.element(1, 0), -128);
        s.is("the last", y.element(1, 99), 127);
        s.is("101 elements", y.copy(0, 0, 1, 0, 101), -13);
    }

    private void promises45And46() {
        s.promise(45, "COST of the one on SHELF d: BLOW 3; EMPTY 1 less; SOUNDING FIGURE more; SHRIEKING twice a "
            + "SOUNDING's; SPLITTING 4 more; CUPPED a SOUNDING's and 2; SOFT half of a CUPPED's, cut; SLIPPED an "
            + "EMPTY's and FIGURE. -1, -11, -12 (a ROW).");
        int[][] costs = {{3, 3, 3}, {2, 2, 2}, {3, 4, 12}, {6, 8, 24}, {7, 7, 7}, {5, 6, 14}, {2, 3, 7}, {2, 3, 11}};
        int[] figures = {0, 1, 9};
        BladeBetweenThumbs x = someOfEach();
        for (int kind = 0; kind < 8; kind++) {
            for (int i = 0; i < 3; i++) {
                x.keep(1, 1, kind, figures[i]);
                s.is("KIND " + kind + ", FIGURE " + figures[i], x.cost(1), costs[kind][i]);
            }
        }
        for (int d : NO_SHELF) {
            s.is("SHELF " + d, x.cost(d), -1);
        }
        s.is("nothing", x.cost(2), -11);
        int[] rows = {0, 3, 4, 5};
        for (int d : rows) {
            s.is("a ROW on " + d, x.cost(d), -12);
        }
        s.promise(46, "The FAILURE of the one on SHELF d is thrown, and caught: its FIGURE; of SOUNDING ones 100 more "
            + "(SHRIEKING, CUPPED, SOFT, too); of SHRIEKING ones 200 plus their COST, in place of all that (FIGURE, "
            + "too). -1, -11, -12 (a ROW); -15: EMPTY ones (SLIPPED, too), and any with FIGURE 0, have none.");
        int[][] failures = {{-15, 1, 9}, {-15, -15, -15}, {-15, 101, 109}, {-15, 208, 224}, {-15, 1, 9},
            {-15, 101, 109}, {-15, 101, 109}, {-15, -15, -15}};
        for (int kind = 0; kind < 8; kind++) {
            for (int i = 0; i < 3; i++) {
                x.keep(1, 1, kind, figures[i]);
                s.is("KIND " + kind + ", FIGURE " + figures[i], x.toss(1), failures[kind][i]);
                s.is("KIND " + kind + ", FIGURE " + figures[i] + ", once more", x.toss(1), failures[kind][i]);
            }
        }
        for (int d : NO_SHELF) {
            s.is("SHELF " + d, x.toss(d), -1);
        }
        s.is("nothing", x.toss(2), -11);
        for (int d : rows) {
            s.is("a ROW on " + d, x.toss(d), -12);
        }
    }
}
