/** Promises 25 to 28: who hears. */
public final class WhoHearsTest {
    private static final Due due = new Due();
    private static final long REFUSED = 1000000001L;

    public static void main(String[] args) {
        heard();
        nearer();
        often();
        answer();
        due.end();
    }

    private static void heard() {
        BladeBetweenThumbs x = new BladeBetweenThumbs();
        int[][] calls = {{70, 20, 2}, {71, 20, 1}, {70, 21, 4}, {60, 21, 0}, {61, 21, 4}, {50, 0, 2}, {49, 0, 0},
            {71, 60, 5}, {52, 20, 10}, {73, 21, 13}, {3, 0, 8}, {0, 0, 0}, {99, 60, 5}, {94, 60, 13}, {50, 21, 0}};
        for (int[] c : calls) {
            due.is("heard(" + c[0] + ", " + c[1] + ")", x.heard(c[0], c[1]), c[2]);
        }
        due.is("pitch -1", x.heard(-1, 0), -1);
        due.is("pitch 100", x.heard(100, 0), -1);
        due.is("force -1", x.heard(0, -1), -1);
        due.is("force 61", x.heard(0, 61), -1);
    }

    private static void fraction(int n, int odds, int calls, long above, long below) {
        BladeBetweenThumbs x = new BladeBetweenThumbs();
        String call = "nearer(" + n + ", " + odds + ", " + calls + ", ";
        due.is(call + "0)", x.nearer(n, odds, calls, 0), above);
        due.is(call + "1)", x.nearer(n, odds, calls, 1), below);
    }

    private static void nearer() {
        fraction(0, 10, 9, 1, 1);
        fraction(1, 0, 9, 0, 1);
        fraction(1, 1000, 1, 1, 1);
        fraction(2, 500, 2, 1, 4);
        fraction(2, 500, 1, 0, 1);
        fraction(9, 1000, 9, 1, 1);
        fraction(10, 1000, 9, 0, 1);
        // Two calls from 1: at once 3/10, or it stays (5/10) and then comes.
        fraction(1, 302, 2, 9, 20);
        // Three calls from 1: 3/10 + 5/10 3/10 + (5/10 5/10 + 2/10 3/10) 3/10.
        fraction(1, 302, 3, 543, 1000);
        fraction(9, 100, 9, 1, 1000000000);
        fraction(1, 307, 0, 0, 1);
        BladeBetweenThumbs x = new BladeBetweenThumbs();
        due.is("n -1", x.nearer(-1, 0, 0, 0), REFUSED);
        due.is("n 13", x.nearer(13, 0, 0, 0), REFUSED);
        due.is("n 12", x.nearer(12, 505, 9, 0), 0);
        due.is("odds -1", x.nearer(0, -1, 0, 0), REFUSED);
        due.is("odds 11", x.nearer(0, 11, 0, 0), REFUSED);
        due.is("odds 10", x.nearer(0, 10, 0, 0), 1);
        due.is("odds 506", x.nearer(0, 506, 0, 0), REFUSED);
        due.is("odds 1100", x.nearer(0, 1100, 0, 0), REFUSED);
        due.is("odds, the greatest int", x.nearer(0, Integer.MAX_VALUE, 0, 0), REFUSED);
        due.is("odds, the least int", x.nearer(0, Integer.MIN_VALUE, 0, 0), REFUSED);
        due.is("calls -1", x.nearer(0, 0, -1, 0), REFUSED);
        due.is("calls 10", x.nearer(0, 0, 10, 0), REFUSED);
        due.is("part -1", x.nearer(0, 0, 0, -1), REFUSED);
        due.is("part 2", x.nearer(0, 0, 0, 2), REFUSED);
    }

    private static void often() {
        BladeBetweenThumbs x = new BladeBetweenThumbs();
        due.is("it is there already", x.often(0, 0), 0);
        due.is("half is enough", x.often(1, 500), 1);
        due.is("4/10, then 64/100", x.often(1, 400), 2);
        due.is("3/10, 9/20, 543/1000", x.often(1, 302), 3);
        due.is("sure steps", x.often(9, 1000), 9);
        due.is("too far", x.often(10, 1000), -4);
        due.is("it never comes", x.often(1, 10), -4);
        due.is("n -1", x.often(-1, 0), -1);
        due.is("n 13", x.often(13, 0), -1);
        due.is("odds 11", x.often(0, 11), -1);
        due.is("odds -1", x.often(0, -1), -1);
    }

    private static void answer() {
        BladeBetweenThumbs x = new BladeBetweenThumbs();
        int[][] calls = {{2, 0, 5, 18}, {3, 0, 5, 8}, {2, 1, 10, 13}, {0, 1, 10, 13}, {2, 2, 0, 1}, {9, 9, 0, 1}};
        for (int[] c : calls) {
            due.is("answer(" + c[0] + ", " + c[1] + ", 0)", x.answer(c[0], c[1], 0), c[2]);
            due.is("answer(" + c[0] + ", " + c[1] + ", 1)", x.answer(c[0], c[1], 1), c[3]);
        }
        due.is("wait -1", x.answer(-1, 0, 0), REFUSED);
        due.is("wait 10", x.answer(10, 0, 0), REFUSED);
        due.is("off -1", x.answer(0, -1, 0), REFUSED);
        due.is("off 10", x.answer(0, 10, 0), REFUSED);
        due.is("part -1", x.answer(0, 0, -1), REFUSED);
        due.is("part 2", x.answer(0, 0, 2), REFUSED);
    }
}
