import java.util.ArrayList;
import java.util.List;

/** The document's rules once more, by tables and by trying out all there is, to hold the class against. */
final class PlainRules {
    /** BREADTH, LENGTH, WET, WEAR. */
    final List<int[]> blades = new ArrayList<>();
    /** SLIT, GRIP. */
    final List<int[]> thumbs = new ArrayList<>();
    /** KIND, FIGURE. */
    final List<int[]> blows = new ArrayList<>();

    PlainRules copy() {
        PlainRules copy = new PlainRules();
        for (int[] blade : blades) {
            copy.blades.add(blade.clone());
        }
        copy.thumbs.addAll(thumbs);
        copy.blows.addAll(blows);
        return copy;
    }

    static int low(int kind, int breadth, int slit) {
        int sounding = Math.max(0, breadth + slit - 2);
        return new int[] {breadth + slit, breadth + slit, sounding, sounding + 10, breadth + slit, sounding,
            sounding + 1, breadth + slit}[kind];
    }

    static int high(int kind, int low, int wet) {
        return kind == 3 ? low + (8 + wet) / 2 : low + 8 + wet;
    }

    static int softest(int kind, int slit) {
        int plain = 6 + 2 * slit;
        return new int[] {plain, 61, plain, 2 * plain, plain, plain, plain / 2, 61}[kind];
    }

    static int hardest(int kind, int figure, int softest) {
        return softest + new int[] {20, 20, 20, 20, 20 - figure, 20, 10, 20}[kind];
    }

    static int pitch(int kind, int figure, int breadth, int tight, int cup) {
        int plain = 60 - breadth + tight;
        return plain + new int[] {0, 0, 0, 12, figure, -cup, -cup, 0}[kind];
    }

    static int wears(int kind, int figure, int force) {
        int plain = force / 10;
        return new int[] {plain, plain, plain + 1, 2 * plain + 2, plain + figure, plain + 1, 0, plain + 1}[kind];
    }

    int[] spans(int b, int slit, int k) {
        int kind = blows.get(k)[0];
        int low = low(kind, blades.get(b)[0], slit);
        int softest = softest(kind, slit);
        return new int[] {low, high(kind, low, blades.get(b)[2]), softest, hardest(kind, blows.get(k)[1], softest)};
    }

    static boolean fits(int[] spans, int grip, int tight, int force) {
        return tight >= spans[0] && tight <= spans[1] && tight <= grip && force >= spans[2] && force <= spans[3];
    }

    boolean sounds(int b, int t, int k, int tight, int force) {
        return fits(spans(b, thumbs.get(t)[0], k), thumbs.get(t)[1], tight, force);
    }

    boolean isSplit(int[] blade) {
        return blade[3] > blade[1] + blade[2];
    }

    boolean isSplit(int b) {
        return isSplit(blades.get(b));
    }

    static int pairs(int[] spans, int grip) {
        int many = 0;
        for (int tight = 0; tight <= 60; tight++) {
            for (int force = 0; force <= 60; force++) {
                many += fits(spans, grip, tight, force) ? 1 : 0;
            }
        }
        return many;
    }

    int where(int b, int t, int k) {
        return pairs(spans(b, thumbs.get(t)[0], k), thumbs.get(t)[1]);
    }

    int telling(int b, int t, int k, int told) {
        int slit = thumbs.get(t)[0] - (told == 2 && thumbs.get(t)[0] > 0 ? 1 : 0);
        int grip = thumbs.get(t)[1] + (told == 1 ? 5 : 0);
        int[] spans = spans(b, slit, k);
        spans[0] = Math.max(0, spans[0] - (told == 0 ? 2 : 0));
        return pairs(spans, Math.min(60, grip));
    }

    /** 100 TIGHT and FORCE, and how far; null if there are none. */
    int[] next(int b, int t, int k, int told) {
        int[] best = null;
        for (int tight = 0; tight <= 60; tight++) {
            for (int force = 0; force <= 60; force++) {
                int far = Math.abs(tight - told / 100) + Math.abs(force - told % 100);
                if (sounds(b, t, k, tight, force) && (best == null || far < best[1])) {
                    best = new int[] {100 * tight + force, far};
                }
            }
        }
        return best;
    }

    /** By striking out what is known to be wrong, one TIGHT after the other. */
    int halves(int b, int t, int k) {
        int[] spans = spans(b, thumbs.get(t)[0], k);
        List<Integer> left = new ArrayList<>();
        for (int tight = 0; tight <= 60; tight++) {
            left.add(tight);
        }
        for (int n = 1; !left.isEmpty(); n++) {
            int middle = (left.get(0) + left.get(left.size() - 1)) / 2;
            if (middle >= spans[0] && middle <= spans[1]) {
                return n;
            }
            left.removeIf(tight -> middle < spans[0] ? tight <= middle : tight >= middle);
        }
        return -4;
    }

    boolean canAt(int b, int t, int k, int tight) {
        for (int force = 0; force <= 60; force++) {
            if (sounds(b, t, k, tight, force)) {
                return true;
            }
        }
        return false;
    }

    int waysOf(int b, int t, int note) {
        int ways = 0;
        for (int k = 0; k < blows.size() && !isSplit(b); k++) {
            for (int tight = 0; tight <= 60; tight++) {
                for (int cup = 0; cup < 10 && canAt(b, t, k, tight); cup++) {
                    int pitch = pitch(blows.get(k)[0], blows.get(k)[1], blades.get(b)[0], tight, cup);
                    ways += pitch == note ? 1 : 0;
                }
            }
        }
        return ways;
    }

    int ways(int t, int note) {
        int ways = 0;
        for (int b = 0; b < blades.size(); b++) {
            ways += waysOf(b, t, note);
        }
        return ways;
    }

    boolean tune(int t, int one, int two, int three) {
        for (int b = 0; b < blades.size(); b++) {
            for (int c = 0; c < blades.size(); c++) {
                for (int d = 0; d < blades.size(); d++) {
                    boolean unlike = b != c && c != d && b != d;
                    if (unlike && waysOf(b, t, one) > 0 && waysOf(c, t, two) > 0 && waysOf(d, t, three) > 0) {
                        return true;
                    }
                }
            }
        }
        return false;
    }

    int lasts(int b, int k, int force) {
        int[] blade = blades.get(b).clone();
        for (int n = 1; n <= 99; n++) {
            blade[3] += wears(blows.get(k)[0], blows.get(k)[1], force);
            if (isSplit(blade)) {
                return n;
            }
        }
        return 99;
    }

    int bestForce(int b, int t, int k) {
        int best = -4;
        for (int force = 0; force <= 60; force++) {
            for (int tight = 0; tight <= 60; tight++) {
                boolean more = best < 0 || lasts(b, k, force) > lasts(b, k, best);
                best = sounds(b, t, k, tight, force) && more ? force : best;
            }
        }
        return best;
    }

    /** All that the TRIES do is worked out first, and only then held against what is told. */
    int judge(int b, int t, int k, int tight, int[] told, int[] forces, int least) {
        int[] blade = blades.get(b).clone();
        int[] did = new int[forces.length];
        for (int i = 0; i < forces.length; i++) {
            did[i] = isSplit(blade) ? 2 : sounds(b, t, k, tight, forces[i]) ? 1 : 0;
            blade[3] += did[i] == 2 ? 0 : wears(blows.get(k)[0], blows.get(k)[1], forces[i]);
        }
        for (int i = 0; i < told.length; i++) {
            boolean isSo = i < did.length && told[i] == did[i];
            if (told[i] != least && !isSo) {
                return i;
            }
        }
        return -4;
    }

    /** SOUND and SPLIT of n walks from a seed. */
    int[] walks(int n, int z) {
        int[] told = new int[2];
        for (int walk = 0; walk < n; walk++) {
            List<int[]> own = new ArrayList<>();
            for (int[] blade : blades) {
                own.add(blade.clone());
            }
            for (int i = 0; i < 10; i++) {
                int[] below = {blades.size(), thumbs.size(), blows.size(), 61, 61};
                int[] drawn = new int[5];
                for (int j = 0; j < 5; j++) {
                    z = z * 1103515245 + 12345;
                    drawn[j] = ((z & 0x7fffffff) >> 16) % below[j];
                }
                int[] blade = own.get(drawn[0]);
                if (!isSplit(blade)) {
                    told[0] += sounds(drawn[0], drawn[1], drawn[2], drawn[3], drawn[4]) ? 1 : 0;
                    blade[3] += wears(blows.get(drawn[2])[0], blows.get(drawn[2])[1], drawn[4]);
                }
            }
            for (int[] blade : own) {
                told[1] += isSplit(blade) ? 1 : 0;
            }
        }
        return told;
    }

    /** The odds that a beast is at 0, by going every way that it can go; in units of 10 to the power of -calls. */
    static long arrivals(int n, int come, int go, int calls) {
        if (calls == 0) {
            return n == 0 ? 1 : 0;
        }
        if (n == 0) {
            return 10 * arrivals(0, come, go, calls - 1);
        }
        return come * arrivals(n - 1, come, go, calls - 1) + go * arrivals(Math.min(12, n + 1), come, go, calls - 1)
            + (10 - come - go) * arrivals(n, come, go, calls - 1);
    }
}
