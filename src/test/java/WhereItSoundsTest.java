/** Promises 14 to 19: where it sounds. */
public final class WhereItSoundsTest {
    private static final Due due = new Due();
    /** Breadth 6, wet 3, slit 5: TIGHT 11 .. 22, FORCE 16 .. 36 by a BLOW; grips 30, 18 and 10. */
    private static final String ONE = "b06103;t530;t518;t510;k00;k10;";

    public static void main(String[] args) {
        where();
        whoCan();
        which();
        wrong();
        next();
        halves();
        due.end();
    }

    private static void where() {
        BladeBetweenThumbs x = Due.told(ONE);
        due.is("12 by 21", x.where(0, 0, 0, 0), 252);
        due.is("the least tight", x.where(0, 0, 0, 1), 11);
        due.is("the least force", x.where(0, 0, 0, 2), 16);
        due.is("grip cuts: 8 by 21", x.where(0, 1, 0, 0), 168);
        due.is("grip too small", x.where(0, 2, 0, 0), 0);
        due.is("none: tight", x.where(0, 2, 0, 1), -4);
        due.is("none: force", x.where(0, 2, 0, 2), -4);
        due.is("an empty blow", x.where(0, 0, 1, 0), 0);
        due.is("an empty blow: force", x.where(0, 0, 1, 2), -4);
        due.is("what 3", x.where(0, 0, 0, 3), -1);
        due.is("what -1", x.where(0, 0, 0, -1), -1);
        due.is("what 3 ahead of none", x.where(0, 2, 0, 3), -1);
        due.is("no such blade", x.where(1, 0, 0, 0), -1);
        due.is("no such thumbs", x.where(0, 3, 0, 0), -1);
        due.is("no such blow", x.where(0, 0, 2, 0), -1);
        // A shrieking blow with slit 9 wants FORCE 48 .. 68, of which 48 .. 60 are there.
        BladeBetweenThumbs y = Due.told("b01100;t960;k30;");
        due.is("5 by 13", y.where(0, 0, 0, 0), 65);
    }

    private static void whoCan() {
        BladeBetweenThumbs x = Due.told("b06013;t510;t511;t530;t560;k10;");
        due.is("none by an empty blow", x.whoCan(), 0);
        x.keep(0, 1, 0, 0);
        x.learns(0);
        due.is("by a blow", x.whoCan(), 14);
        x.tries(0, 0, 1, 0, 60);
        due.is("worn 6 of 4", x.blade(0, 4), 1);
        due.is("not by a split blade", x.whoCan(), 0);
        x.grows(24, 1, 0);
        due.is("the broad one wants tight 29", x.whoCan(), 12);
        due.is("nobody there", new BladeBetweenThumbs().whoCan(), 0);
    }

    private static void which() {
        BladeBetweenThumbs x = Due.told("b20010;b06013;b07013;b06023;t530;t005;k00;k10;");
        due.is("most: the first of two with 252", x.which(0, 0), 1);
        due.is("none for a small grip", x.which(1, 0), -4);
        due.is("none by an empty blow", x.which(0, 1), -4);
        x.tries(1, 0, 0, 0, 60);
        due.is("split ones aside", x.which(0, 0), 2);
        due.is("no such thumbs", x.which(2, 0), -1);
        due.is("no such blow", x.which(0, 2), -1);
        due.is("thumbs -1", x.which(-1, 0), -1);
        due.is("blow -1", x.which(0, -1), -1);
    }

    private static void wrong() {
        BladeBetweenThumbs x = Due.told(ONE);
        int[][] calls = {{0, 11, 16, 0}, {0, 22, 36, 0}, {0, 10, 16, 1}, {0, 23, 16, 2}, {0, 31, 16, 6},
            {1, 19, 16, 4}, {0, 11, 15, 8}, {0, 11, 37, 16}, {2, 11, 0, 12}, {0, 0, 60, 17}, {0, 60, 60, 22}};
        for (int[] c : calls) {
            due.is("wrong(0, " + c[0] + ", 0, " + c[1] + ", " + c[2] + ")", x.wrong(0, c[0], 0, c[1], c[2]), c[3]);
        }
        due.is("an empty blow is too soft", x.wrong(0, 0, 1, 11, 60), 8);
        due.is("tight 61", x.wrong(0, 0, 0, 61, 0), -1);
        due.is("tight -1", x.wrong(0, 0, 0, -1, 0), -1);
        due.is("force 61", x.wrong(0, 0, 0, 0, 61), -1);
        due.is("force -1", x.wrong(0, 0, 0, 0, -1), -1);
        due.is("no such blade", x.wrong(1, 0, 0, 0, 0), -1);
        due.is("no such thumbs", x.wrong(0, 3, 0, 0, 0), -1);
        due.is("no such blow", x.wrong(0, 0, 2, 0, 0), -1);
    }

    private static void next() {
        BladeBetweenThumbs x = Due.told(ONE);
        int[][] calls = {{1220, 1220, 0}, {0, 1116, 27}, {6060, 2236, 62}, {1200, 1216, 16}, {1120, 1120, 0},
            {2360, 2236, 25}, {10, 1116, 17}};
        for (int[] c : calls) {
            due.is("next(0, 0, 0, " + c[0] + ", 0)", x.next(0, 0, 0, c[0], 0), c[1]);
            due.is("next(0, 0, 0, " + c[0] + ", 1)", x.next(0, 0, 0, c[0], 1), c[2]);
        }
        due.is("grip cuts", x.next(0, 1, 0, 6020, 0), 1820);
        due.is("none", x.next(0, 2, 0, 0, 0), -4);
        due.is("none, how far", x.next(0, 2, 0, 0, 1), -4);
        int[] bad = {-1, -100, 61, 99, 6100, 6061, Integer.MAX_VALUE, Integer.MIN_VALUE};
        for (int told : bad) {
            due.is("told " + told, x.next(0, 0, 0, told, 0), -1);
        }
        due.is("what 2", x.next(0, 0, 0, 0, 2), -1);
        due.is("what -1", x.next(0, 0, 0, 0, -1), -1);
        due.is("-1 ahead of -4", x.next(0, 2, 0, 61, 0), -1);
        due.is("no such blade", x.next(1, 0, 0, 0, 0), -1);
        due.is("no such thumbs", x.next(0, 3, 0, 0, 0), -1);
        due.is("no such blow", x.next(0, 0, 2, 0, 0), -1);
    }

    private static void halves() {
        BladeBetweenThumbs x = Due.told("b12010;b01010;b24019;b02010;t530;t000;k00;k30;k10;");
        due.is("17 .. 25: 30, 14, 22", x.halves(0, 0, 0), 3);
        due.is("25 .. 29: 30, 14, 22, 26", x.halves(0, 0, 1), 4);
        due.is("force aside", x.halves(0, 0, 2), 3);
        due.is("1 .. 9: 30, 14, 6", x.halves(1, 1, 0), 3);
        due.is("grip aside, 24 .. 41: 30", x.halves(2, 1, 0), 1);
        due.is("10 .. 14: 30, 14", x.halves(3, 1, 1), 2);
        due.is("no such blade", x.halves(4, 0, 0), -1);
        due.is("no such thumbs", x.halves(0, 2, 0), -1);
        due.is("no such blow", x.halves(0, 0, 3), -1);
    }
}
