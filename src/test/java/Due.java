/** Counts answers that are not the ones that are due, prints them, and ends the test. */
final class Due {
    private int asked;
    private int wrong;

    void is(String call, long got, long want) {
        asked++;
        if (got != want) {
            wrong++;
            System.out.println(call + " answered " + got + ", due is " + want);
        }
    }

    /** For element(): 0 it answers, 1 IllegalArgumentException, 2 IllegalStateException. */
    void thrown(String call, BladeBetweenThumbs x, int d, int i, int want) {
        int got = 0;
        try {
            x.element(d, i);
        } catch (IllegalArgumentException e) {
            got = 1;
        } catch (IllegalStateException e) {
            got = 2;
        }
        is(call + " throws (0 nothing, 1 IllegalArgumentException, 2 IllegalStateException)", got, want);
    }

    void end() {
        System.out.println(asked + " answers, " + wrong + " not as due");
        if (wrong != 0 || asked == 0) {
            System.exit(1);
        }
    }

    /** SHELF d gets a ROW of bytes with the text. */
    static void text(BladeBetweenThumbs x, int d, String text) {
        numbers(x, d, 0, text.chars().toArray());
    }

    /** SHELF d gets a ROW of the SORT with the numbers. */
    static void numbers(BladeBetweenThumbs x, int d, int sort, int... numbers) {
        x.row(d, sort, numbers.length);
        for (int i = 0; i < numbers.length; i++) {
            x.put(d, i, numbers[i]);
        }
    }

    /** A new object for which the text has been told (by SHELF 7, which is empty again behind it). */
    static BladeBetweenThumbs told(String text) {
        BladeBetweenThumbs x = new BladeBetweenThumbs();
        text(x, 7, text);
        int answer = x.hedge(7);
        if (answer < 0) {
            throw new IllegalStateException("the test's own text has a fault: " + text + " " + answer);
        }
        x.keep(7, 0, 0, 0);
        return x;
    }
}
