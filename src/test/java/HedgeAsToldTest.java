/** Promises 1 to 13: the hedge as told. */
public final class HedgeAsToldTest {
    private static final Due due = new Due();

    public static void main(String[] args) {
        aNewObject();
        textsThatCome();
        faultsOfKind1();
        faultsOfKind2();
        refusalsOfHedge();
        aFaultLeavesAllAsItWas();
        blade();
        thumbs();
        blow();
        grows();
        learns();
        comes();
        wets();
        span();
        sounds();
        pitch();
        tries();
        due.end();
    }

    private static void aNewObject() {
        BladeBetweenThumbs x = new BladeBetweenThumbs();
        due.is("new: count(0)", x.count(0), 0);
        due.is("new: count(1)", x.count(1), 0);
        due.is("new: count(2)", x.count(2), 0);
        due.is("new: count(3)", x.count(3), 0);
        due.is("new: blade(0, 0)", x.blade(0, 0), -1);
        for (int d = 0; d < 8; d++) {
            due.is("new: cost(" + d + ")", x.cost(d), -11);
        }
        due.is("new: restore()", x.restore(), -3);
    }

    private static int hedge(BladeBetweenThumbs x, String text) {
        Due.text(x, 0, text);
        return x.hedge(0);
    }

    private static void textsThatCome() {
        BladeBetweenThumbs x = new BladeBetweenThumbs();
        due.is("b24249;", hedge(x, "b24249;"), 1);
        due.is("t960;k79;", hedge(x, "t960;k79;"), 2);
        due.is("y0006060; wears 7", hedge(x, "y0006060;"), 1);
        due.is("breadth", x.blade(0, 0), 24);
        due.is("length", x.blade(0, 1), 24);
        due.is("wet", x.blade(0, 2), 9);
        due.is("wear", x.blade(0, 3), 7);
        due.is("slit", x.thumbs(0, 0), 9);
        due.is("grip", x.thumbs(0, 1), 60);
        due.is("kind", x.blow(0, 0), 7);
        due.is("figure", x.blow(0, 1), 9);
        due.is("the text stays on its shelf", x.element(0, 0), 'y');
        due.is("and comes once more", x.hedge(0), 1);
        due.is("wear", x.blade(0, 3), 14);
        String twentyfive = "k00;k00;k00;k00;k00;k00;";
        due.is("room for six blows", hedge(new BladeBetweenThumbs(), twentyfive), 6);
    }

    private static void faultsOfKind1() {
        String[] texts = {"", "x", "b", "b0", "b01010", "b01010:", "b0101;", "b0a010;", "b01010;;", "b01010; ",
            "b01010;b", "t", "t06;", "t0600", "k0;", "k000;", "y000000;", "y00000000;", "B01010;", "b01010;t060",
            "b99999;q"};
        int[] places = {0, 0, 1, 2, 6, 6, 5, 2, 7, 7,
            8, 1, 3, 4, 2, 3, 7, 8, 0, 11,
            7};
        for (int i = 0; i < texts.length; i++) {
            due.is("kind 1: " + texts[i], hedge(new BladeBetweenThumbs(), texts[i]), -1000 - places[i]);
        }
        BladeBetweenThumbs x = new BladeBetweenThumbs();
        Due.numbers(x, 0, 0, 'k', '0', '0', ';', 0);
        due.is("a byte 0 behind the text", x.hedge(0), -1004);
        Due.numbers(x, 0, 0, 'k', -1, '0', ';');
        due.is("a byte below 0", x.hedge(0), -1001);
        due.is("nothing came", x.count(2), 0);
    }

    private static void faultsOfKind2() {
        String[] texts = {"b00010;", "b25010;", "b01000;", "b01250;", "t061;", "t099;", "k80;", "k90;",
            "b01010;t060;y0000000;", "b01010;t060;k00;y1000000;", "b01010;t060;k00;y0100000;",
            "b01010;t060;k00;y0010000;", "b01010;t060;k00;y0006100;", "b01010;t060;k00;y0000061;",
            "k00;k00;k00;k00;k00;k00;k00;", "t000;t000;t000;t000;t000;",
            "b01010;b01010;b01010;b01010;b01010;b01010;b01010;",
            "b01010;t060;k02;y0000020;y0000000;", "y0000000;b01010;t060;k00;"};
        int[] places = {0, 0, 0, 0, 0, 0, 0, 0,
            12, 16, 16, 16, 16, 16, 24, 20, 42, 25, 0};
        for (int i = 0; i < texts.length; i++) {
            due.is("kind 2: " + texts[i], hedge(new BladeBetweenThumbs(), texts[i]), -2000 - places[i]);
        }
        due.is("kind 1 is told ahead of kind 2", hedge(new BladeBetweenThumbs(), "b00000;k00"), -1010);
    }

    private static void refusalsOfHedge() {
        BladeBetweenThumbs x = new BladeBetweenThumbs();
        due.is("hedge(-1)", x.hedge(-1), -1);
        due.is("hedge(8)", x.hedge(8), -1);
        due.is("hedge(0), nothing", x.hedge(0), -11);
        x.keep(0, 1, 0, 1);
        due.is("hedge(0), a blow", x.hedge(0), -12);
        x.row(0, 1, 0);
        due.is("hedge(0), shorts", x.hedge(0), -12);
        x.row(0, 2, 0);
        due.is("hedge(0), ints", x.hedge(0), -12);
    }

    private static void aFaultLeavesAllAsItWas() {
        BladeBetweenThumbs x = Due.told("b05100;t130;k20;");
        due.is("a try and then a fault", hedge(x, "b06010;t000;k39;y0000560;y9000560;"), -2025);
        due.is("blades", x.count(0), 1);
        due.is("thumbs", x.count(1), 1);
        due.is("blows", x.count(2), 1);
        due.is("wear", x.count(4), 0);
        due.is("what is there already counts", hedge(x, "y0000560;b06010;y1000560;"), 3);
        due.is("wear of both", x.count(4), 14);
        due.is("blade 1 is split", x.count(3), 2);
        due.is("a split one is blown no more", hedge(x, "y1000000;"), -2000);
    }

    private static void blade() {
        BladeBetweenThumbs x = Due.told("b07031;t960;k49;y0000000;");
        int[] want = {7, 3, 1, 9, 1};
        for (int what = 0; what < 5; what++) {
            due.is("blade(0, " + what + ")", x.blade(0, what), want[what]);
        }
        due.is("blade(0, 5)", x.blade(0, 5), -1);
        due.is("blade(0, -1)", x.blade(0, -1), -1);
        due.is("blade(1, 0)", x.blade(1, 0), -1);
        due.is("blade(-1, 0)", x.blade(-1, 0), -1);
    }

    private static void thumbs() {
        BladeBetweenThumbs x = Due.told("t960;t000;");
        due.is("thumbs(0, 0)", x.thumbs(0, 0), 9);
        due.is("thumbs(0, 1)", x.thumbs(0, 1), 60);
        due.is("thumbs(1, 0)", x.thumbs(1, 0), 0);
        due.is("thumbs(1, 1)", x.thumbs(1, 1), 0);
        due.is("thumbs(0, 2)", x.thumbs(0, 2), -1);
        due.is("thumbs(0, -1)", x.thumbs(0, -1), -1);
        due.is("thumbs(2, 0)", x.thumbs(2, 0), -1);
        due.is("thumbs(-1, 0)", x.thumbs(-1, 0), -1);
    }

    private static void blow() {
        int[] wears = {3, 3, 4, 8, 12, 4, 0, 4};
        for (int kind = 0; kind < 8; kind++) {
            BladeBetweenThumbs x = Due.told("k" + kind + "9;");
            due.is("blow(0, 0) of kind " + kind, x.blow(0, 0), kind);
            due.is("blow(0, 1) of kind " + kind, x.blow(0, 1), 9);
            due.is("blow(0, 2) of kind " + kind, x.blow(0, 2), wears[kind]);
            due.is("blow(0, 3)", x.blow(0, 3), -1);
            due.is("blow(0, -1)", x.blow(0, -1), -1);
            due.is("blow(1, 0)", x.blow(1, 0), -1);
            due.is("blow(-1, 0)", x.blow(-1, 0), -1);
        }
    }

    private static void grows() {
        BladeBetweenThumbs x = new BladeBetweenThumbs();
        due.is("grows(0, 1, 0)", x.grows(0, 1, 0), -1);
        due.is("grows(25, 1, 0)", x.grows(25, 1, 0), -1);
        due.is("grows(1, 0, 0)", x.grows(1, 0, 0), -1);
        due.is("grows(1, 25, 0)", x.grows(1, 25, 0), -1);
        due.is("grows(1, 1, -1)", x.grows(1, 1, -1), -1);
        due.is("grows(1, 1, 10)", x.grows(1, 1, 10), -1);
        for (int b = 0; b < 6; b++) {
            due.is("grows, number " + b, x.grows(1 + b, 24, 9), b);
            due.is("its breadth", x.blade(b, 0), 1 + b);
            due.is("its wear", x.blade(b, 3), 0);
        }
        due.is("grows, a seventh", x.grows(1, 1, 0), -2);
        due.is("grows, a seventh out of range", x.grows(1, 1, 10), -1);
        due.is("count(0)", x.count(0), 6);
    }

    private static void learns() {
        BladeBetweenThumbs x = new BladeBetweenThumbs();
        due.is("learns(-1)", x.learns(-1), -1);
        due.is("learns(8)", x.learns(8), -1);
        due.is("learns(0), nothing", x.learns(0), -11);
        x.row(0, 0, 1);
        due.is("learns(0), a row", x.learns(0), -12);
        x.keep(0, 1, 6, 7);
        for (int k = 0; k < 6; k++) {
            due.is("learns(0), number " + k, x.learns(0), k);
        }
        due.is("learns(0), a seventh", x.learns(0), -2);
        due.is("learns(1), nothing ahead of no room", x.learns(1), -11);
        due.is("it stays on its shelf", x.toss(0), 107);
        x.keep(0, 1, 0, 1);
        due.is("what was learnt stays what it was", x.blow(5, 0), 6);
        due.is("and its figure", x.blow(5, 1), 7);
    }

    private static void comes() {
        BladeBetweenThumbs x = new BladeBetweenThumbs();
        due.is("comes(-1, 0)", x.comes(-1, 0), -1);
        due.is("comes(10, 0)", x.comes(10, 0), -1);
        due.is("comes(0, -1)", x.comes(0, -1), -1);
        due.is("comes(0, 61)", x.comes(0, 61), -1);
        for (int t = 0; t < 4; t++) {
            due.is("comes, number " + t, x.comes(t, 60 - t), t);
            due.is("their grip", x.thumbs(t, 1), 60 - t);
        }
        due.is("comes, a fifth", x.comes(0, 0), -2);
        due.is("comes, a fifth out of range", x.comes(10, 0), -1);
    }

    private static void wets() {
        BladeBetweenThumbs x = Due.told("b01010;t060;k02;y0000020;");
        due.is("split at first", x.blade(0, 4), 1);
        due.is("wets(0, 1)", x.wets(0, 1), 0);
        due.is("no more, wet", x.blade(0, 4), 0);
        due.is("wets(0, 0)", x.wets(0, 0), 1);
        due.is("split again, dry", x.blade(0, 4), 1);
        due.is("wets(0, 9)", x.wets(0, 9), 0);
        due.is("wets(0, 10)", x.wets(0, 10), -1);
        due.is("wets(0, -1)", x.wets(0, -1), -1);
        due.is("wets(1, 0)", x.wets(1, 0), -1);
        due.is("wets(-1, 0)", x.wets(-1, 0), -1);
        due.is("blade(0, 2)", x.blade(0, 2), 9);
    }

    private static void span() {
        // Breadth 6, wet 3, slit 5, figure 7: LOW, HIGH, SOFTEST, HARDEST of each kind.
        int[][] want = {{11, 22, 16, 36}, {11, 22, 61, 81}, {9, 20, 16, 36}, {19, 24, 32, 52},
            {11, 22, 16, 29}, {9, 20, 16, 36}, {10, 21, 8, 18}, {11, 22, 61, 81}};
        for (int kind = 0; kind < 8; kind++) {
            BladeBetweenThumbs x = Due.told("b06103;t530;k" + kind + "7;");
            for (int what = 0; what < 4; what++) {
                due.is("span(0, 0, 0, " + what + ") of kind " + kind, x.span(0, 0, 0, what), want[kind][what]);
            }
        }
        // Breadth 1, slit 0: 2 less than 1 is 0 at least.
        int[] low = {1, 1, 0, 10, 1, 0, 1, 1};
        for (int kind = 0; kind < 8; kind++) {
            BladeBetweenThumbs x = Due.told("b01100;t060;k" + kind + "0;");
            due.is("the least LOW of kind " + kind, x.span(0, 0, 0, 0), low[kind]);
            due.is("span(0, 0, 0, 4)", x.span(0, 0, 0, 4), -1);
            due.is("span(0, 0, 0, -1)", x.span(0, 0, 0, -1), -1);
            due.is("span(1, 0, 0, 0)", x.span(1, 0, 0, 0), -1);
            due.is("span(0, 1, 0, 0)", x.span(0, 1, 0, 0), -1);
            due.is("span(0, 0, 1, 0)", x.span(0, 0, 1, 0), -1);
            due.is("span(-1, 0, 0, 0)", x.span(-1, 0, 0, 0), -1);
        }
    }

    private static void sounds() {
        BladeBetweenThumbs x = Due.told("b06103;t518;t530;k07;");
        int[][] calls = {{0, 11, 16, 1}, {0, 10, 16, 0}, {0, 18, 36, 1}, {0, 19, 36, 0}, {1, 22, 36, 1},
            {1, 23, 36, 0}, {1, 22, 37, 0}, {1, 22, 15, 0}};
        for (int[] c : calls) {
            due.is("sounds(0, " + c[0] + ", 0, " + c[1] + ", " + c[2] + ")", x.sounds(0, c[0], 0, c[1], c[2]), c[3]);
        }
        due.is("tight -1", x.sounds(0, 0, 0, -1, 0), -1);
        due.is("tight 61", x.sounds(0, 0, 0, 61, 0), -1);
        due.is("force -1", x.sounds(0, 0, 0, 0, -1), -1);
        due.is("force 61", x.sounds(0, 0, 0, 0, 61), -1);
        due.is("no such blade", x.sounds(1, 0, 0, 0, 0), -1);
        due.is("no such thumbs", x.sounds(0, 2, 0, 0, 0), -1);
        due.is("no such blow", x.sounds(0, 0, 1, 0, 0), -1);
        due.is("nothing wears", x.count(4), 0);
        BladeBetweenThumbs y = Due.told("b01103;t060;k20;k30;t960;");
        due.is("tight 0 is in range", y.sounds(0, 0, 0, 0, 6), 1);
        due.is("force 0 is in range", y.sounds(0, 0, 0, 0, 0), 0);
        due.is("tight 60 is in range", y.sounds(0, 0, 0, 60, 6), 0);
        due.is("force 60 is in range", y.sounds(0, 1, 1, 20, 60), 1);
    }

    private static void pitch() {
        int[] want = {74, 74, 74, 86, 81, 70, 70, 74};
        for (int kind = 0; kind < 8; kind++) {
            BladeBetweenThumbs x = Due.told("b06103;k" + kind + "7;");
            due.is("pitch(0, 0, 20, 4) of kind " + kind, x.pitch(0, 0, 20, 4), want[kind]);
            due.is("tight 0, cup 0", x.pitch(0, 0, 0, 0), 54 + (kind == 3 ? 12 : kind == 4 ? 7 : 0));
            due.is("tight 60, cup 9", x.pitch(0, 0, 60, 9), want[kind] + 40 - (kind == 5 || kind == 6 ? 5 : 0));
            due.is("tight -1", x.pitch(0, 0, -1, 0), 1000000001);
            due.is("tight 61", x.pitch(0, 0, 61, 0), 1000000001);
            due.is("cup -1", x.pitch(0, 0, 0, -1), 1000000001);
            due.is("cup 10", x.pitch(0, 0, 0, 10), 1000000001);
            due.is("no such blade", x.pitch(1, 0, 0, 0), 1000000001);
            due.is("no such blow", x.pitch(0, 1, 0, 0), 1000000001);
        }
    }

    private static void tries() {
        BladeBetweenThumbs x = Due.told("b05040;t130;k20;");
        due.is("it sounds", x.tries(0, 0, 0, 4, 20), 1);
        due.is("wear 3 of 4", x.blade(0, 3), 3);
        due.is("out of range, nothing wears", x.tries(0, 0, 0, 61, 20), -1);
        due.is("it does not sound, wear 4 of 4", x.tries(0, 0, 0, 0, 0), 0);
        due.is("not split yet", x.blade(0, 4), 0);
        due.is("it sounds and splits", x.tries(0, 0, 0, 4, 8), 3);
        due.is("split", x.blade(0, 4), 1);
        due.is("blown no more", x.tries(0, 0, 0, 4, 8), -3);
        due.is("its wear stays", x.blade(0, 3), 5);
        due.is("-1 ahead of -3", x.tries(0, 0, 0, 4, 61), -1);
        due.is("no such thumbs ahead of -3", x.tries(0, 1, 0, 4, 8), -1);
        due.is("no such blow ahead of -3", x.tries(0, 0, 1, 4, 8), -1);
        due.is("no such blade", x.tries(1, 0, 0, 4, 8), -1);
        BladeBetweenThumbs y = Due.told("b05010;t130;k09;");
        due.is("it does not sound and splits", y.tries(0, 0, 0, 0, 60), 2);
        BladeBetweenThumbs z = Due.told("b05010;t130;k00;");
        due.is("tight 60 is in range", z.tries(0, 0, 0, 60, 0), 0);
    }
}
