/** Promises 29 to 36: tellings, odds, heaps. */
public final class TellingsTest {
    private static final Due due = new Due();
    private static final int LEAST_INT = Integer.MIN_VALUE;

    public static void main(String[] args) {
        telling();
        odds();
        enough();
        heap();
        forged();
        remainder();
        judgeWithoutSplitting();
        judgeWithSplitting();
        judgeSkips();
        judgeTriesWhereItSkips();
        judgeRefuses();
        walks();
        due.end();
    }

    private static void telling() {
        // Breadth 6, wet 3, slit 5, grip 18: TIGHT 11 .. 18 of 11 .. 22, FORCE 16 .. 36.
        BladeBetweenThumbs x = Due.told("b06103;t518;t560;t008;t004;k00;k10;k20;");
        due.is("low 9 .. 18", x.telling(0, 0, 0, 0), 10 * 21);
        due.is("grip 23: 11 .. 22", x.telling(0, 0, 0, 1), 12 * 21);
        due.is("slit 4: 10 .. 18", x.telling(0, 0, 0, 2), 9 * 21);
        due.is("best", x.telling(0, 0, 0, 3), 1);
        due.is("grip 60 stays 60", x.telling(0, 1, 0, 1), 12 * 21);
        due.is("low helps there", x.telling(0, 1, 0, 3), 0);
        due.is("slit 0 stays 0", x.telling(0, 2, 0, 2), 3 * 21);
        due.is("slit 0: grip helps", x.telling(0, 2, 0, 3), 1);
        due.is("low of a sounding one, 4 less 2", x.telling(0, 3, 2, 0), 3 * 21);
        due.is("none by an empty one", x.telling(0, 0, 1, 0), 0);
        due.is("none is best", x.telling(0, 0, 1, 3), -4);
        due.is("nothing changes", x.where(0, 0, 0, 0), 8 * 21);
        due.is("told 4", x.telling(0, 0, 0, 4), -1);
        due.is("told -1", x.telling(0, 0, 0, -1), -1);
        due.is("no such blade", x.telling(1, 0, 0, 0), -1);
        due.is("no such thumbs", x.telling(0, 4, 0, 0), -1);
        due.is("no such blow", x.telling(0, 0, 3, 0), -1);
        BladeBetweenThumbs y = Due.told("b01100;t000;k20;");
        due.is("low 0 stays 0", y.telling(0, 0, 0, 0), 21);
        due.is("grip 5", y.telling(0, 0, 0, 1), 6 * 21);
        // Slit 1, grip 60: all three tellings differ in where; equal ones are told by the least.
        BladeBetweenThumbs z = Due.told("b01100;t060;k20;");
        due.is("all alike: the least", z.telling(0, 0, 0, 3), 0);
    }

    private static void odds() {
        BladeBetweenThumbs x = Due.told("b06103;t530;t560;t000;k00;");
        // 252 of 31 times 61, of 61 times 61.
        due.is("odds above", x.odds(0, 0, 0, 0), 252);
        due.is("odds below", x.odds(0, 0, 0, 1), 31 * 61);
        due.is("grip 60", x.odds(0, 1, 0, 1), 61 * 61);
        due.is("none above", x.odds(0, 2, 0, 0), 0);
        due.is("none below", x.odds(0, 2, 0, 1), 1);
        BladeBetweenThumbs y = Due.told("b01100;t005;k00;");
        due.is("5 by 21 of 6 by 61", y.odds(0, 0, 0, 0), 35);
        due.is("in least terms", y.odds(0, 0, 0, 1), 122);
        due.is("part 2", x.odds(0, 0, 0, 2), 1000000001L);
        due.is("part -1", x.odds(0, 0, 0, -1), 1000000001L);
        due.is("no such blade", x.odds(1, 0, 0, 0), 1000000001L);
        due.is("no such thumbs", x.odds(0, 3, 0, 0), 1000000001L);
        due.is("no such blow", x.odds(0, 0, 1, 0), 1000000001L);
    }

    private static void enough() {
        BladeBetweenThumbs x = Due.told("b06103;b06100;b02100;t530;t511;t502;t000;k00;k10;k20;");
        due.is("1891 by 252", x.enough(0, 0, 0), 8);
        due.is("732 by 21", x.enough(0, 1, 0), 35);
        due.is("1 by 0", x.enough(0, 0, 1), -4);
        due.is("no such blade", x.enough(3, 0, 0), -1);
        due.is("no such thumbs", x.enough(0, 4, 0), -1);
        due.is("no such blow", x.enough(0, 0, 3), -1);
        due.is("61 by 21", x.enough(2, 3, 2), 3);
        // 17 by 61 is 1037: more than 49 and less than 50 times 21; one more grip is too much.
        BladeBetweenThumbs y = Due.told("b16100;b20100;t016;t020;k00;");
        due.is("50 are enough", y.enough(0, 0, 0), 50);
        due.is("more than 50 are not told", y.enough(1, 1, 0), -4);
        // 915 by 18.
        due.is("51", Due.told("b14100;t014;k43;").enough(0, 0, 0), -4);
    }

    private static void heap() {
        BladeBetweenThumbs x = Due.told("k00;k20;k30;k60;");
        Due.numbers(x, 0, 0, 6, 5, 0, 6);
        due.is("two have just force 60", x.heap(0, 0, 0), 2);
        due.is("the first", x.heap(0, 0, 1), 60);
        Due.numbers(x, 0, 2, 3, 6);
        due.is("30 .. 39", x.heap(0, 0, 1), 30);
        due.is("20 .. 29 by a sounding one", x.heap(1, 0, 1), 20);
        due.is("3 is none by a shriek", x.heap(2, 0, 0), -4);
        due.is("both", x.heap(2, 0, 1), -4);
        Due.numbers(x, 0, 1, 2, 14, 5);
        due.is("a later one has none", x.heap(2, 0, 1), -4);
        Due.numbers(x, 0, 1, 0);
        due.is("soft: all 61 fit", x.heap(3, 0, 0), 0);
        due.is("soft: the least", x.heap(3, 0, 1), 0);
        Due.numbers(x, 0, 1, -1);
        due.is("-1 fits none", x.heap(0, 0, 0), -4);
        Due.numbers(x, 0, 0);
        due.is("no tries", x.heap(0, 0, 0), 0);
        due.is("no first try", x.heap(0, 0, 1), -4);
        due.is("no such blow", x.heap(4, 0, 0), -1);
        due.is("what 2", x.heap(0, 0, 2), -1);
        due.is("what -1 ahead of -11", x.heap(0, 1, -1), -1);
        due.is("no such shelf", x.heap(0, 8, 0), -1);
        due.is("nothing", x.heap(0, 1, 0), -11);
        x.keep(1, 1, 0, 0);
        due.is("a blow", x.heap(0, 1, 0), -12);
    }

    private static void forged() {
        BladeBetweenThumbs x = Due.told("k00;k49;");
        Due.numbers(x, 0, 2, 0, 6, 7, -1);
        due.is("the first with none", x.forged(0, 0), 2);
        due.is("by another blow", x.forged(1, 0), 0);
        Due.numbers(x, 0, 2, 9, 15);
        due.is("all fit", x.forged(1, 0), -4);
        Due.numbers(x, 0, 2);
        due.is("no tries", x.forged(1, 0), -4);
        due.is("no such blow", x.forged(2, 0), -1);
        due.is("no such shelf", x.forged(0, -1), -1);
        due.is("nothing", x.forged(0, 1), -11);
        x.keep(1, 1, 0, 0);
        due.is("a blow", x.forged(0, 1), -12);
    }

    private static void remainder() {
        BladeBetweenThumbs x = new BladeBetweenThumbs();
        Due.numbers(x, 0, 2, 7, -7, 3, -3, 0, LEAST_INT, -1);
        due.is("7 modulo 3", x.remainder(0, 0, 2), 1);
        due.is("-7 modulo 3", x.remainder(0, 1, 2), -1);
        due.is("7 modulo -3", x.remainder(0, 0, 3), 1);
        due.is("-7 modulo -3", x.remainder(0, 1, 3), -1);
        due.is("0 modulo 7", x.remainder(0, 4, 0), 0);
        due.is("the least modulo -1", x.remainder(0, 5, 6), 0);
        due.is("modulo 0", x.remainder(0, 0, 4), 1000000016);
        due.is("i 7", x.remainder(0, 7, 0), 1000000013);
        due.is("i -1", x.remainder(0, -1, 0), 1000000013);
        due.is("j 7", x.remainder(0, 0, 7), 1000000013);
        due.is("j -1", x.remainder(0, 0, -1), 1000000013);
        due.is("-13 ahead of -16", x.remainder(0, 7, 4), 1000000013);
        due.is("no such shelf", x.remainder(-1, 0, 0), 1000000001);
        due.is("nothing", x.remainder(1, 0, 0), 1000000011);
        x.keep(1, 1, 0, 0);
        due.is("a blow", x.remainder(1, 0, 0), 1000000012);
    }

    private static void judgeWithoutSplitting() {
        BladeBetweenThumbs x = Due.told("b05249;t130;k00;");
        Due.numbers(x, 1, 2, 8, 7, 28, 29);
        Due.numbers(x, 0, 0, 1, 0, 1, 0);
        due.is("all is so", x.judge(0, 6, 0, 1), -4);
        due.is("at tight 5 it does not sound", x.judge(0, 5, 0, 1), 0);
        Due.numbers(x, 0, 0, 1, 0, 1);
        due.is("more forces than told", x.judge(0, 6, 0, 1), -4);
        Due.numbers(x, 0, 0, 1, 0, 1, 0, 0);
        due.is("one beyond the other row", x.judge(0, 6, 0, 1), 4);
        Due.numbers(x, 0, 0, 1, 0, 2, 0);
        due.is("it is not split", x.judge(0, 6, 0, 1), 2);
        Due.numbers(x, 0, 0, 1, 5, 1, 0);
        due.is("5 is never so", x.judge(0, 6, 0, 1), 1);
        x.row(0, 0, 0);
        due.is("nothing told", x.judge(0, 6, 0, 1), -4);
        due.is("nothing wears", x.count(4), 0);
    }

    private static void judgeWithSplitting() {
        // Length 4: a blow with FORCE 20 wears 2, the third splits it, and further ones are not blown.
        BladeBetweenThumbs x = Due.told("b05040;t130;k00;");
        Due.numbers(x, 1, 1, 20, 20, 20, 20, 60);
        Due.numbers(x, 0, 2, 1, 1, 1, 2, 2);
        due.is("split behind the third", x.judge(0, 6, 0, 1), -4);
        Due.numbers(x, 0, 2, 1, 1, 1, 1, 2);
        due.is("not blown any more", x.judge(0, 6, 0, 1), 3);
        x.tries(0, 0, 0, 0, 60);
        Due.numbers(x, 0, 2, 2, 2, 1);
        due.is("split from the first on", x.judge(0, 6, 0, 1), 2);
        BladeBetweenThumbs y = Due.told("b05249;b05010;t130;t001;k10;k00;");
        Due.numbers(y, 1, 1, 20, 20);
        Due.numbers(y, 0, 2, 1, 2);
        due.is("who: blade 1, thumbs 0, blow 1", y.judge(101, 6, 0, 1), -4);
        due.is("who: blade 1, thumbs 1, blow 1", y.judge(111, 6, 0, 1), 0);
        due.is("who: blade 0, thumbs 0, blow 1", y.judge(1, 6, 0, 1), 1);
        due.is("who: blade 1, thumbs 0, blow 0", y.judge(100, 6, 0, 1), 0);
    }

    private static void judgeSkips() {
        BladeBetweenThumbs x = Due.told("b05249;t130;k00;");
        Due.numbers(x, 1, 0, 20, 20);
        int[] least = {-128, -32768, LEAST_INT};
        for (int sort = 0; sort < 3; sort++) {
            Due.numbers(x, 0, sort, least[sort], 0, least[sort], least[sort]);
            due.is("skipped first, sort " + sort, x.judge(0, 6, 0, 1), 1);
            Due.numbers(x, 0, sort, 1, least[sort], least[sort], least[sort]);
            due.is("skipped beyond, sort " + sort, x.judge(0, 6, 0, 1), -4);
            Due.numbers(x, 0, sort, 1, least[sort], least[sort], 1);
            due.is("the place counts skipped ones, sort " + sort, x.judge(0, 6, 0, 1), 3);
            Due.numbers(x, 0, sort, 1, -127);
            due.is("-127 is not skipped, sort " + sort, x.judge(0, 6, 0, 1), 1);
        }
        Due.numbers(x, 0, 1, -128);
        due.is("-128 is not the least of shorts", x.judge(0, 6, 0, 1), 0);
    }

    private static void judgeTriesWhereItSkips() {
        // Length 1: a blow with FORCE 20 wears 2, so the skipped try splits the blade.
        BladeBetweenThumbs x = Due.told("b05010;t130;k00;");
        Due.numbers(x, 1, 0, 20, 20, 20);
        int[] least = {-128, -32768, LEAST_INT};
        for (int sort = 0; sort < 3; sort++) {
            Due.numbers(x, 0, sort, least[sort], 1);
            due.is("a skipped try wears, sort " + sort, x.judge(0, 6, 0, 1), 1);
            Due.numbers(x, 0, sort, least[sort], 2);
            due.is("a skipped try splits, sort " + sort, x.judge(0, 6, 0, 1), -4);
            Due.numbers(x, 0, sort, 1, least[sort], 2);
            due.is("a skipped place of a split blade, sort " + sort, x.judge(0, 6, 0, 1), -4);
            Due.numbers(x, 0, sort, least[sort], least[sort], least[sort], least[sort]);
            due.is("all skipped, sort " + sort, x.judge(0, 6, 0, 1), -4);
            Due.numbers(x, 0, sort, least[sort], 2, 2, 2);
            due.is("one beyond is not so though it is split, sort " + sort, x.judge(0, 6, 0, 1), 3);
            Due.numbers(x, 0, sort, least[sort], 2, 2, -4);
            due.is("-4 beyond is not so either, sort " + sort, x.judge(0, 6, 0, 1), 3);
        }
        Due.numbers(x, 1, 0, 0, 20, 20);
        Due.numbers(x, 0, 0, -128, 1, 2);
        due.is("a skipped try with FORCE 0 wears nothing", x.judge(0, 6, 0, 1), -4);
        due.is("nothing changes", x.count(4), 0);
    }

    private static void judgeRefuses() {
        BladeBetweenThumbs x = Due.told("b05249;t130;k00;");
        x.row(0, 0, 1);
        x.row(1, 2, 2);
        int[] nobody = {-1, 1, 10, 100, 1000, Integer.MAX_VALUE, LEAST_INT};
        for (int who : nobody) {
            due.is("who " + who, x.judge(who, 0, 0, 1), -1);
        }
        due.is("tight 61", x.judge(0, 61, 0, 1), -1);
        due.is("tight -1", x.judge(0, -1, 0, 1), -1);
        due.is("no such shelf d", x.judge(0, 0, 8, 1), -1);
        due.is("no such shelf e ahead of nothing on d", x.judge(0, 0, 2, -1), -1);
        due.is("nothing on d", x.judge(0, 0, 2, 1), -11);
        x.keep(3, 1, 0, 0);
        due.is("nothing on e ahead of a blow on d", x.judge(0, 0, 3, 2), -11);
        due.is("a blow on d", x.judge(0, 0, 3, 1), -12);
        due.is("a blow on e", x.judge(0, 0, 0, 3), -12);
        x.put(1, 1, 61);
        due.is("force 61 beyond what is told", x.judge(0, 0, 0, 1), -13);
        x.put(1, 1, -1);
        due.is("force -1", x.judge(0, 0, 0, 1), -13);
        x.put(1, 1, 0);
        x.put(1, 0, 61);
        due.is("the first force is none", x.judge(0, 0, 0, 1), -13);
        x.put(1, 0, 60);
        due.is("forces 0 and 60, tight 60", x.judge(0, 60, 0, 1), -4);
        x.put(1, 0, -1);
        due.is("-12 ahead of -13", x.judge(0, 0, 3, 1), -12);
    }

    private static void walks() {
        BladeBetweenThumbs x = new BladeBetweenThumbs();
        due.is("no blades", x.walks(1, 0, 0), -3);
        due.is("-1 ahead of -3", x.walks(21, 0, 0), -1);
        x.grows(1, 1, 0);
        due.is("no thumbs", x.walks(1, 0, 0), -3);
        x.comes(0, 60);
        due.is("no blows", x.walks(1, 0, 0), -3);
        x.keep(0, 1, 6, 0);
        x.learns(0);
        due.is("thumbs alone", Due.told("t060;").walks(1, 0, 0), -3);
        due.is("no blades alone", Due.told("t060;k00;").walks(1, 0, 0), -3);
        due.is("no thumbs alone", Due.told("b01010;k00;").walks(1, 0, 0), -3);
        due.is("n 0", x.walks(0, 0, 0), -1);
        due.is("n 21", x.walks(21, 0, 0), -1);
        due.is("what 2", x.walks(1, 0, 2), -1);
        due.is("what -1", x.walks(1, 0, -1), -1);
        due.is("soft ones split none", x.walks(20, 7, 1), 0);
        // Of a SPLITTING one with 9 the first try splits: one of each walk.
        BladeBetweenThumbs y = Due.told("b01010;t060;k49;");
        due.is("each walk splits it anew", y.walks(20, 7, 1), 20);
        due.is("nothing changes", y.blade(0, 3), 0);
        y.tries(0, 0, 0, 0, 0);
        due.is("split already", y.walks(3, 7, 1), 3);
        due.is("not blown", y.walks(3, 7, 0), 0);
    }
}
