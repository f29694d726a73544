/** Promises 40 to 46: shelves. */
public final class ShelvesTest {
    private static final Due due = new Due();

    public static void main(String[] args) {
        keep();
        row();
        put();
        element();
        copy();
        copyRefuses();
        cost();
        toss();
        due.end();
    }

    private static void keep() {
        BladeBetweenThumbs x = new BladeBetweenThumbs();
        due.is("keep(0, 1, 0, 3)", x.keep(0, 1, 0, 3), 0);
        due.is("kind 8", x.keep(0, 1, 8, 0), -1);
        due.is("kind -1", x.keep(0, 1, -1, 0), -1);
        due.is("figure 10", x.keep(0, 1, 0, 10), -1);
        due.is("figure -1", x.keep(0, 1, 0, -1), -1);
        due.is("what 2", x.keep(0, 2, 0, 0), -1);
        due.is("what -1", x.keep(0, -1, 0, 0), -1);
        due.is("shelf 8", x.keep(8, 1, 0, 0), -1);
        due.is("shelf -1, nothing", x.keep(-1, 0, 0, 0), -1);
        due.is("what was refused changed nothing", x.toss(0), 3);
        due.is("nothing, the others do not matter", x.keep(0, 0, 99, -5), 0);
        due.is("nothing is there", x.toss(0), -11);
        x.row(0, 0, 5);
        due.is("a blow in place of a row", x.keep(0, 1, 7, 9), 0);
        due.is("its cost", x.cost(0), 11);
        due.is("no row any more", x.put(0, 0, 1), -12);
        due.is("shelf 7", x.keep(7, 1, 0, 1), 0);
    }

    private static void row() {
        BladeBetweenThumbs x = new BladeBetweenThumbs();
        due.is("row(0, 2, 100)", x.row(0, 2, 100), 0);
        due.is("the last element", x.element(0, 99), 0);
        x.put(0, 50, 9);
        due.is("n 101", x.row(0, 0, 101), -1);
        due.is("n -1", x.row(0, 0, -1), -14);
        due.is("the least n", x.row(0, 0, Integer.MIN_VALUE), -14);
        due.is("sort 3", x.row(0, 3, 1), -1);
        due.is("sort -1", x.row(0, -1, 1), -1);
        due.is("-1 ahead of -14: sort", x.row(0, 3, -1), -1);
        due.is("-1 ahead of -14: shelf", x.row(8, 0, -1), -1);
        due.is("shelf -1", x.row(-1, 0, 0), -1);
        due.is("what was refused changed nothing", x.element(0, 50), 9);
        due.is("a new row", x.row(0, 2, 60), 0);
        due.is("0 at first", x.element(0, 50), 0);
        due.is("no elements", x.row(0, 2, 0), 0);
        due.is("no place 0", x.put(0, 0, 0), -13);
        x.keep(1, 1, 0, 1);
        due.is("in place of a blow", x.row(1, 1, 1), 0);
        due.is("no blow any more", x.cost(1), -12);
    }

    private static void put() {
        BladeBetweenThumbs x = new BladeBetweenThumbs();
        int[] given = {0, 127, 128, -128, -129, 255, 32767, 32768, -32769, 65536, 70000, Integer.MAX_VALUE,
            Integer.MIN_VALUE};
        for (int sort = 0; sort < 3; sort++) {
            due.is("row", x.row(sort, sort, 1), 0);
            for (int v : given) {
                long want = sort == 0 ? (byte) v : sort == 1 ? (short) v : v;
                due.is("put(" + sort + ", 0, " + v + ")", x.put(sort, 0, v), 0);
                due.is("what is kept of " + v + " by sort " + sort, x.element(sort, 0), want);
            }
        }
        due.is("no such shelf", x.put(8, 0, 0), -1);
        due.is("shelf -1", x.put(-1, 0, 0), -1);
        due.is("nothing", x.put(3, 0, 0), -11);
        x.keep(3, 1, 0, 0);
        due.is("a blow", x.put(3, 0, 0), -12);
        due.is("place 1", x.put(0, 1, 0), -13);
        due.is("place -1", x.put(0, -1, 0), -13);
    }

    private static void element() {
        BladeBetweenThumbs x = new BladeBetweenThumbs();
        Due.numbers(x, 0, 1, -5, 6);
        x.keep(1, 1, 0, 5);
        due.thrown("element(0, 1)", x, 0, 1, 0);
        due.is("element(0, 0)", x.element(0, 0), -5);
        due.is("element(0, 1)", x.element(0, 1), 6);
        due.thrown("element(0, 2)", x, 0, 2, 2);
        due.thrown("element(0, -1)", x, 0, -1, 2);
        due.thrown("element(1, 0), a blow", x, 1, 0, 2);
        due.thrown("element(2, 0), nothing", x, 2, 0, 2);
        due.thrown("element(7, 0), nothing", x, 7, 0, 2);
        due.thrown("element(8, 0)", x, 8, 0, 1);
        due.thrown("element(-1, -1)", x, -1, -1, 1);
    }

    private static void elements(String when, BladeBetweenThumbs x, int d, int... want) {
        for (int i = 0; i < want.length; i++) {
            due.is(when + ": element(" + d + ", " + i + ")", x.element(d, i), want[i]);
        }
    }

    private static void copy() {
        BladeBetweenThumbs x = new BladeBetweenThumbs();
        Due.numbers(x, 0, 2, 1, 2, 3, 4, 5);
        Due.numbers(x, 1, 2, 0, 0, 0);
        due.is("copy(0, 3, 1, 1, 2)", x.copy(0, 3, 1, 1, 2), 2);
        elements("to another", x, 1, 0, 4, 5);
        elements("the first stays", x, 0, 1, 2, 3, 4, 5);
        due.is("on itself, on", x.copy(0, 0, 0, 1, 4), 4);
        elements("on itself, on", x, 0, 1, 1, 2, 3, 4);
        due.is("on itself, back", x.copy(0, 1, 0, 0, 4), 4);
        elements("on itself, back", x, 0, 1, 2, 3, 4, 4);
        due.is("none at all", x.copy(0, 0, 1, 0, 0), 0);
        due.is("none behind the last", x.copy(0, 5, 1, 3, 0), 0);
        x.put(1, 0, 77);
        elements("a copy is its own", x, 0, 1, 2, 3, 4, 4);
    }

    private static void copyRefuses() {
        BladeBetweenThumbs x = new BladeBetweenThumbs();
        Due.numbers(x, 0, 2, 1, 2, 3);
        Due.numbers(x, 1, 2, 4, 5);
        x.row(2, 1, 3);
        x.keep(3, 1, 0, 0);
        due.is("no such shelf d", x.copy(8, 0, 0, 0, 0), -1);
        due.is("no such shelf e ahead of nothing on d", x.copy(4, 0, -1, 0, 0), -1);
        due.is("nothing on d", x.copy(4, 0, 0, 0, 0), -11);
        due.is("nothing on e ahead of a blow on d", x.copy(3, 0, 4, 0, 0), -11);
        due.is("a blow on d", x.copy(3, 0, 0, 0, 0), -12);
        due.is("a blow on e", x.copy(0, 0, 3, 0, 0), -12);
        due.is("of another sort ahead of -13", x.copy(0, 0, 2, 0, -1), -12);
        due.is("n -1", x.copy(0, 0, 1, 0, -1), -13);
        due.is("too many of d", x.copy(1, 1, 0, 0, 2), -13);
        due.is("too many for e", x.copy(0, 0, 1, 0, 3), -13);
        due.is("too many for e from 1", x.copy(0, 0, 1, 1, 2), -13);
        due.is("i -1", x.copy(0, -1, 1, 0, 1), -13);
        due.is("j -1", x.copy(0, 0, 1, -1, 1), -13);
        due.is("i beyond", x.copy(0, 4, 1, 0, 0), -13);
        due.is("j beyond", x.copy(0, 0, 1, 3, 0), -13);
        int most = Integer.MAX_VALUE;
        due.is("all the greatest", x.copy(0, most, 1, most, most), -13);
        due.is("the greatest n", x.copy(0, 1, 1, 1, most), -13);
        elements("nothing changes", x, 1, 4, 5);
    }

    private static void cost() {
        int[] want = {3, 2, 8, 16, 7, 10, 5, 7};
        BladeBetweenThumbs x = new BladeBetweenThumbs();
        for (int kind = 0; kind < 8; kind++) {
            x.keep(0, 1, kind, 5);
            due.is("cost(0) of kind " + kind, x.cost(0), want[kind]);
        }
        x.keep(0, 1, 6, 4);
        due.is("half of 9, cut", x.cost(0), 4);
        onlyABlow("cost", x);
    }

    private static void onlyABlow(String call, BladeBetweenThumbs x) {
        boolean isCost = call.equals("cost");
        due.is(call + "(-1)", isCost ? x.cost(-1) : x.toss(-1), -1);
        due.is(call + "(8)", isCost ? x.cost(8) : x.toss(8), -1);
        due.is(call + "(1), nothing", isCost ? x.cost(1) : x.toss(1), -11);
        x.row(2, 0, 0);
        due.is(call + "(2), a row", isCost ? x.cost(2) : x.toss(2), -12);
    }

    private static void toss() {
        int[] want = {5, -15, 105, 216, 5, 105, 105, -15};
        BladeBetweenThumbs x = new BladeBetweenThumbs();
        for (int kind = 0; kind < 8; kind++) {
            x.keep(0, 1, kind, 5);
            due.is("toss(0) of kind " + kind, x.toss(0), want[kind]);
            due.is("it stays and is thrown again", x.toss(0), want[kind]);
            x.keep(0, 1, kind, 0);
            due.is("toss(0) with figure 0 of kind " + kind, x.toss(0), -15);
        }
        onlyABlow("toss", x);
    }
}
