/** Promises 20 to 24: tunes, how long. */
public final class TunesTest {
    private static final Due due = new Due();

    public static void main(String[] args) {
        ways();
        tune();
        lasts();
        bestForce();
        clash();
        due.end();
    }

    private static void ways() {
        // Breadth 10, slit 0, dry: TIGHT 10 .. 18 and so pitches 60 .. 68, each with any of ten cups.
        BladeBetweenThumbs x = Due.told("b10010;t060;t012;t009;k00;");
        due.is("too low", x.ways(0, 59), 0);
        due.is("lowest", x.ways(0, 60), 10);
        due.is("highest", x.ways(0, 68), 10);
        due.is("too high", x.ways(0, 69), 0);
        due.is("grip cuts", x.ways(1, 63), 0);
        due.is("grip 9 can none", x.ways(2, 60), 0);
        x.keep(0, 1, 5, 0);
        x.learns(0);
        // Cupped: TIGHT 8 .. 16, pitches 58 .. 66 less a cup: for 60 TIGHT 10 .. 16 with cups 0 .. 6, one each.
        due.is("by two blows", x.ways(0, 60), 10 + 7);
        due.is("cupped alone", x.ways(0, 49), 1);
        x.keep(0, 1, 1, 0);
        x.learns(0);
        due.is("an empty blow does not sound", x.ways(0, 60), 17);
        due.is("note -1", x.ways(0, -1), -1);
        due.is("note 100", x.ways(0, 100), -1);
        due.is("note 0", x.ways(0, 0), 0);
        due.is("note 99", x.ways(0, 99), 0);
        due.is("no such thumbs", x.ways(3, 60), -1);
        due.is("thumbs -1", x.ways(-1, 60), -1);
        x.tries(0, 0, 0, 0, 60);
        due.is("not by a split blade", x.ways(0, 60), 0);
    }

    private static void tune() {
        // Dry, slit 0: TIGHT breadth .. breadth and 8: every blade has the pitches 60 .. 68 by a BLOW.
        BladeBetweenThumbs x = Due.told("b10010;b11010;t060;t010;k00;");
        due.is("two blades do not do for three notes", x.tune(0, 606162, 0), 0);
        due.is("all three can", x.tune(0, 606162, 1), 3);
        due.is("two can", x.tune(0, 600062, 1), 2);
        due.is("none can", x.tune(0, 99, 1), 0);
        due.is("notes 0", x.tune(0, 0, 1), 0);
        due.is("only the first can", x.tune(0, 600000, 1), 1);
        x.grows(12, 1, 0);
        due.is("three blades", x.tune(0, 606162, 0), 1);
        due.is("three like notes", x.tune(0, 606060, 0), 1);
        due.is("three like notes can", x.tune(0, 606060, 1), 3);
        due.is("one can't", x.tune(0, 606169, 0), 0);
        due.is("grip 10 leaves one blade", x.tune(1, 606060, 0), 0);
        due.is("grip 10, how many", x.tune(1, 606061, 1), 2);
        x.tries(2, 0, 0, 0, 60);
        due.is("split ones aside", x.tune(0, 606162, 0), 0);
        due.is("notes -1", x.tune(0, -1, 0), -1);
        due.is("notes 1000000", x.tune(0, 1000000, 0), -1);
        due.is("notes 999999", x.tune(0, 999999, 1), 0);
        due.is("what 2", x.tune(0, 606162, 2), -1);
        due.is("what -1", x.tune(0, 606162, -1), -1);
        due.is("no such thumbs", x.tune(2, 606162, 0), -1);
    }

    private static void lasts() {
        BladeBetweenThumbs x = Due.told("b10245;b10010;t060;k00;k60;k49;k20;");
        due.is("10 of 29: 1 each", x.lasts(0, 0, 10), 30);
        due.is("30 of 29: 3 each", x.lasts(0, 0, 30), 10);
        due.is("nothing wears", x.lasts(0, 0, 9), 99);
        due.is("soft wears nothing", x.lasts(0, 1, 60), 99);
        due.is("15 each", x.lasts(0, 2, 60), 2);
        x.tries(0, 0, 0, 0, 60);
        due.is("23 are left", x.lasts(0, 0, 10), 24);
        due.is("sounding wears 1 more", x.lasts(0, 3, 0), 24);
        x.tries(1, 0, 0, 0, 60);
        due.is("split", x.lasts(1, 0, 10), -3);
        due.is("-1 ahead of -3: blow", x.lasts(1, 4, 10), -1);
        due.is("-1 ahead of -3: force", x.lasts(1, 0, 61), -1);
        due.is("force -1", x.lasts(0, 0, -1), -1);
        due.is("no such blade", x.lasts(2, 0, 0), -1);
    }

    private static void bestForce() {
        BladeBetweenThumbs x = Due.told("b10245;b10010;t060;t009;t660;k00;k60;k10;");
        due.is("6 .. 9 wear nothing: the least", x.bestForce(0, 0, 0), 6);
        due.is("soft: 3", x.bestForce(0, 0, 1), 3);
        due.is("18 .. 19 wear 1", x.bestForce(0, 2, 0), 18);
        due.is("grip 9: none", x.bestForce(0, 1, 0), -4);
        due.is("an empty one: none", x.bestForce(0, 0, 2), -4);
        x.tries(1, 0, 0, 0, 60);
        due.is("split", x.bestForce(1, 0, 0), -3);
        due.is("-1 ahead of -3", x.bestForce(1, 3, 0), -1);
        due.is("no such blow", x.bestForce(0, 0, 3), -1);
        due.is("no such blade", x.bestForce(2, 0, 0), -1);
    }

    private static void clash() {
        BladeBetweenThumbs x = Due.told("b10010;b20010;b12010;b11010;b22010;b10010;t060;k00;k30;");
        // 10 12, 10 11, 20 22, 12 11, 12 10, 11 10 are 1 or 2 apart.
        due.is("how many", x.clash(0, 0, 0), 6);
        due.is("the first", x.clash(0, 0, 1), 2);
        due.is("by a shriek", x.clash(1, 60, 0), 6);
        x.tries(0, 0, 0, 0, 60);
        due.is("split ones, too", x.clash(0, 30, 1), 2);
        BladeBetweenThumbs y = Due.told("b10010;b13010;b10010;k00;");
        due.is("3 and 0 apart do not clash", y.clash(0, 0, 0), 0);
        due.is("no first", y.clash(0, 0, 1), -4);
        y.grows(14, 1, 0);
        due.is("10 the lesser and the other", y.clash(0, 0, 1), 13);
        due.is("no such blow", y.clash(1, 0, 0), -1);
        due.is("blow -1", y.clash(-1, 0, 0), -1);
        due.is("tight 61", y.clash(0, 61, 0), -1);
        due.is("tight -1", y.clash(0, -1, 0), -1);
        due.is("what 2", y.clash(0, 0, 2), -1);
        due.is("what -1", y.clash(0, 0, -1), -1);
    }
}
