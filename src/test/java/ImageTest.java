/** Promises 37 to 39: the image, what is told. */
public final class ImageTest {
    private static final Due due = new Due();

    public static void main(String[] args) {
        imageAndRestore();
        shelvesStay();
        imageIsTakenAnew();
        count();
        due.end();
    }

    private static void imageAndRestore() {
        BladeBetweenThumbs x = new BladeBetweenThumbs();
        due.is("no image yet", x.restore(), -3);
        due.is("an image of nothing", x.image(), 0);
        Due.text(x, 0, "b05102;t130;k20;");
        x.hedge(0);
        due.is("restored to nothing", x.restore(), 0);
        due.is("no thumbs", x.count(1), 0);
        due.is("no blows", x.count(2), 0);
        x.hedge(0);
        due.is("an image of one", x.image(), 1);
        x.tries(0, 0, 0, 4, 60);
        x.wets(0, 9);
        x.grows(1, 1, 0);
        x.comes(0, 0);
        x.keep(1, 1, 3, 9);
        x.learns(1);
        due.is("restored", x.restore(), 1);
        due.is("blades", x.count(0), 1);
        due.is("thumbs", x.count(1), 1);
        due.is("blows", x.count(2), 1);
        due.is("wear", x.blade(0, 3), 0);
        due.is("wet", x.blade(0, 2), 2);
        x.tries(0, 0, 0, 4, 60);
        due.is("worn", x.blade(0, 3), 7);
        due.is("the image stays", x.restore(), 1);
        due.is("wear once more", x.blade(0, 3), 0);
    }

    private static void shelvesStay() {
        BladeBetweenThumbs x = new BladeBetweenThumbs();
        x.keep(0, 1, 0, 1);
        x.row(1, 2, 1);
        x.image();
        x.keep(0, 1, 0, 2);
        x.put(1, 0, 5);
        x.restore();
        due.is("the blow on a shelf stays as it is", x.toss(0), 2);
        due.is("the row, too", x.element(1, 0), 5);
    }

    private static void imageIsTakenAnew() {
        BladeBetweenThumbs x = Due.told("b05102;t130;k20;");
        x.image();
        x.grows(2, 2, 2);
        due.is("taken anew", x.image(), 2);
        x.grows(3, 3, 3);
        due.is("the later one is restored", x.restore(), 2);
        due.is("blade 1", x.blade(1, 0), 2);
        due.is("no blade 2", x.blade(2, 0), -1);
        due.is("a new one is unworn", x.grows(4, 4, 4), 2);
        due.is("its wear", x.blade(2, 3), 0);
        // A refused text and calls that only look do not touch the image.
        Due.text(x, 0, "b01010;b99999;");
        due.is("a fault", x.hedge(0), -2007);
        x.walks(20, 1, 0);
        x.telling(0, 0, 0, 3);
        due.is("still the later one", x.restore(), 2);
        due.is("grip", x.thumbs(0, 1), 30);
    }

    private static void count() {
        BladeBetweenThumbs x = Due.told("b05102;b06010;b07010;t130;t260;k20;y0000410;y1000460;y2000460;");
        int[] want = {3, 2, 1, 6, 2 + 7 + 7, 90};
        for (int what = 0; what < 6; what++) {
            due.is("count(" + what + ")", x.count(what), want[what]);
        }
        due.is("count(6)", x.count(6), -1);
        due.is("count(-1)", x.count(-1), -1);
    }
}
