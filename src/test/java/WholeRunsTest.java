import java.lang.reflect.InvocationTargetException;
import java.lang.reflect.Method;
import java.util.HashMap;
import java.util.Map;
import java.util.Random;
import java.util.TreeMap;

/** Whole runs of 512 calls by seeds, all calls mixed, each answer held against that of PlainObject. */
public final class WholeRunsTest {
    private static final int RUNS = 250;
    private static final int CALLS = 512;
    /**
     * Each call with its numbers: b a BLADE, t THUMBS, k a BLOW, d a SHELF (r mostly with a ROW, s mostly with a BLOW),
     * i a place, v any int, n TIGHT and FORCE, m notes, o tenths, w who, and else the least and the greatest.
     */
    private static final String[] KINDS_OF_CALLS = {"hedge d", "blade b 0-4", "thumbs t 0-1", "blow k 0-2",
        "grows 1-24 1-24 0-9", "learns s", "comes 0-9 0-60", "wets b 0-9", "span b t k 0-3", "sounds b t k 0-60 0-60",
        "pitch b k 0-60 0-9", "tries b t k 0-60 0-60", "where b t k 0-2", "whoCan", "which t k", "wrong b t k 0-60 0-60",
        "next b t k n 0-1", "halves b t k", "ways t 45-90", "tune t m 0-1", "lasts b k 0-60", "bestForce b t k",
        "clash k 0-60 0-1", "heard 0-99 0-60", "nearer 0-12 o 0-9 0-1", "often 0-12 o", "answer 0-9 0-9 0-1",
        "telling b t k 0-3", "odds b t k 0-1", "enough b t k", "heap k r 0-1", "forged k r", "remainder r i i",
        "judge w 0-60 r r", "walks 1-20 v 0-1", "image", "restore", "count 0-5", "keep d 0-1 0-7 0-9", "row d 0-2 0-100",
        "put r i v", "element r i", "copy r i r i 0-4", "cost s", "toss s"};
    private static final int[] FAR_OUT = {Integer.MIN_VALUE, Integer.MAX_VALUE, -1000000000, 1000000000, -1, 100};
    private static final Due due = new Due();
    private static final Random random = new Random(13);
    private static final Map<String, Method> methods = new HashMap<>();
    /** How often a call was answered with 0 or more, so that no call is always refused here. */
    private static final Map<String, Integer> answered = new TreeMap<>();

    private final BladeBetweenThumbs x = new BladeBetweenThumbs();
    private final PlainObject plain = new PlainObject();
    private final StringBuilder before = new StringBuilder();
    private int calls;
    private boolean isWrong;

    public static void main(String[] args) {
        for (Method method : BladeBetweenThumbs.class.getMethods()) {
            methods.put(method.getName(), method);
        }
        for (int run = 0; run < RUNS; run++) {
            new WholeRunsTest().run(run);
        }
        for (String kind : KINDS_OF_CALLS) {
            String name = kind.split(" ")[0];
            due.is(name + " is answered a hundred times and more", answered.getOrDefault(name, 0) >= 100 ? 1 : 0, 1);
        }
        due.end();
    }

    private static int from(int least, int most) {
        return least + random.nextInt(most - least + 1);
    }

    private void run(int run) {
        if (run % 4 != 0) {
            tellHedge();
        }
        // Of a hedge told early THE IMAGE has room, so that it can be filled once more.
        if (run % 4 == 1) {
            hold("image");
        }
        while (calls < CALLS && !isWrong) {
            int dice = from(0, 99);
            if (dice < 2) {
                tellHedge();
            } else if (dice < 6) {
                fillRow();
            } else {
                String[] kind = KINDS_OF_CALLS[random.nextInt(KINDS_OF_CALLS.length)].split(" ");
                int[] with = new int[kind.length - 1];
                for (int i = 0; i < with.length; i++) {
                    with[i] = number(kind[i + 1]);
                }
                hold(kind[0], with);
            }
        }
    }

    private int number(String kind) {
        int least = 0;
        int most = 0;
        switch (kind.charAt(0)) {
            case 'b': most = plain.now.blades.size() - 1; break;
            case 't': most = plain.now.thumbs.size() - 1; break;
            case 'k': most = plain.now.blows.size() - 1; break;
            case 'd': most = 7; break;
            case 'r': case 's': return shelf(kind.charAt(0) == 'r');
            case 'i': most = from(0, 9) == 0 ? 100 : 4; break;
            case 'v': return from(0, 1) == 0 ? random.nextInt() : from(-3, 62);
            case 'n': return 100 * number("0-60") + number("0-60");
            case 'm': return 10000 * number("45-90") + 100 * number("45-90") + number("45-90");
            case 'o':
                int come = number("0-10");
                return 100 * come + number("0-" + Math.max(0, 10 - come));
            case 'w': return 100 * number("b") + 10 * number("t") + number("k");
            default:
                least = Integer.parseInt(kind.substring(0, kind.indexOf('-')));
                most = Integer.parseInt(kind.substring(kind.indexOf('-') + 1));
        }
        return mostlyWithin(least, most);
    }

    private int shelf(boolean withRow) {
        int d = number("d");
        for (int i = 0; i < 6 && d >= 0 && d <= 7 && (withRow ? plain.rows : plain.held)[d] == null; i++) {
            d = number("d");
        }
        return d;
    }

    private static int mostlyWithin(int least, int most) {
        int dice = from(0, 79);
        if (dice < 2) {
            return dice == 0 ? least - 1 : most + 1;
        }
        if (dice == 2) {
            return FAR_OUT[random.nextInt(FAR_OUT.length)];
        }
        return dice < 12 ? dice < 7 ? least : most : from(least, Math.max(least, most));
    }

    // ---- ROWS that calls get further with than with any numbers

    private void tellHedge() {
        StringBuilder text = new StringBuilder();
        for (int i = from(1, 12); i > 0 && text.length() < 90; i--) {
            text.append(statement());
        }
        if (from(0, 3) == 0) {
            int at = random.nextInt(text.length());
            text.setCharAt(at, "btky;0123456789 x".charAt(random.nextInt(17)));
        }
        text.setLength(Math.min(text.length(), from(0, 9) == 0 ? from(0, 90) : 100));
        fill(0, text.chars().toArray());
        hold("hedge", 0);
        if (from(0, 9) == 0) {
            hold("hedge", 0);
        }
    }

    private String statement() {
        switch (from(0, 9)) {
            case 0: case 1: case 2:
                return String.format("b%02d%02d%d;", from(from(0, 20) == 0 ? 0 : 1, 24), from(1, 24), from(0, 9));
            case 3: case 4:
                return String.format("t%d%02d;", from(0, 9), from(0, 60));
            case 5: case 6: case 7:
                return String.format("k%d%d;", from(0, from(0, 20) == 0 ? 9 : 7), from(0, 9));
            default:
                return String.format("y%d%d%d%02d%02d;", from(0, 2), from(0, 1), from(0, 2), from(0, 60), from(0, 60));
        }
    }

    private void fillRow() {
        int[] numbers = new int[from(0, 7)];
        if (from(0, 3) == 0) {
            hold("keep", from(1, 7), 1, from(0, 7), from(0, 9));
        }
        int kind = from(0, 2);
        for (int i = 0; i < numbers.length; i++) {
            numbers[i] = kind == 0 ? from(0, 60) : kind == 1 ? from(0, 2) : from(0, 8);
            numbers[i] = kind == 1 && from(0, 4) == 0 ? Integer.MIN_VALUE : numbers[i];
        }
        int d = from(1, 7);
        fill(d, from(0, 2), numbers);
        if (kind == 1 && from(0, 1) == 0) {
            hold("judge", number("w"), number("0-60"), d, from(1, 7));
        }
    }

    private void fill(int d, int[] text) {
        fill(d, 0, text);
    }

    private void fill(int d, int sort, int[] numbers) {
        int[] lowest = {-128, -32768, Integer.MIN_VALUE};
        hold("row", d, sort, numbers.length);
        for (int i = 0; i < numbers.length; i++) {
            hold("put", d, i, numbers[i] == Integer.MIN_VALUE ? lowest[sort] : numbers[i]);
        }
    }

    // ---- one call

    private void hold(String name, int... with) {
        if (calls >= CALLS || isWrong) {
            return;
        }
        calls++;
        StringBuilder call = new StringBuilder(name).append('(');
        for (int v : with) {
            call.append(v).append(',');
        }
        before.append(call.append(") "));
        long got = ask(name, with);
        long want = plain.answer(name, with);
        if (got != want) {
            isWrong = true;
        }
        answered.merge(name, got >= 0 && got < 1000000000 ? 1 : 0, Integer::sum);
        due.is(isWrong ? before.toString() : "", got, want);
    }

    private long ask(String name, int[] with) {
        Object[] boxed = new Object[with.length];
        for (int i = 0; i < with.length; i++) {
            boxed[i] = with[i];
        }
        try {
            return ((Number) methods.get(name).invoke(x, boxed)).longValue();
        } catch (InvocationTargetException e) {
            boolean isArgument = e.getCause() instanceof IllegalArgumentException;
            boolean isState = e.getCause() instanceof IllegalStateException;
            return isArgument ? PlainObject.ILLEGAL_ARGUMENT : isState ? PlainObject.ILLEGAL_STATE : Long.MIN_VALUE + 9;
        } catch (IllegalAccessException e) {
            return Long.MIN_VALUE + 9;
        }
    }
}
