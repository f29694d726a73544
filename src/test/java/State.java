/** All that can be told of an object by asking it, in one text. */
final class State {
    private State() {
    }

    /** THE IMAGE is told by RESTORING it, so the object is used up by this. */
    static String of(BladeBetweenThumbs x) {
        StringBuilder told = new StringBuilder();
        hedge(x, told);
        for (int d = 0; d < 8; d++) {
            told.append(" shelf ").append(d).append(": ").append(x.cost(d)).append(' ').append(x.toss(d));
            elements(x, d, told);
            // Which SHELVES hold ROWS of one SORT.
            for (int e = 0; e < 8; e++) {
                told.append(' ').append(x.copy(d, 0, e, 0, 0));
            }
        }
        told.append(" image ").append(x.restore());
        hedge(x, told);
        return told.toString();
    }

    private static void hedge(BladeBetweenThumbs x, StringBuilder told) {
        for (int what = 0; what < 6; what++) {
            told.append(" count ").append(x.count(what));
        }
        for (int b = 0; b < x.count(0); b++) {
            for (int what = 0; what < 5; what++) {
                told.append(" blade ").append(x.blade(b, what));
            }
        }
        for (int t = 0; t < x.count(1); t++) {
            told.append(" thumbs ").append(x.thumbs(t, 0)).append(' ').append(x.thumbs(t, 1));
        }
        for (int k = 0; k < x.count(2); k++) {
            for (int what = 0; what < 3; what++) {
                told.append(" blow ").append(x.blow(k, what));
            }
        }
    }

    private static void elements(BladeBetweenThumbs x, int d, StringBuilder told) {
        try {
            for (int i = 0; i < 100; i++) {
                told.append(' ').append(x.element(d, i));
            }
        } catch (IllegalStateException noSuchPlace) {
            told.append(" end");
        }
    }
}
