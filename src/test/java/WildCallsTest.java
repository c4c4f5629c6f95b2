import java.util.Arrays;
import java.util.Random;

/**
 * Runs of 512 calls with any numbers: nothing is thrown, what is refused changes nothing, and the
 * same calls answer the same.
 */
public final class WildCallsTest {
    private static final int[] EDGES = {Integer.MIN_VALUE, -101, -41, -40, -2, -1, 0, 1, 2, 3, 4, 5, 6, 7, 8, 9, 10,
        15, 16, 23, 24, 25, 36, 40, 41, 72, 100, 1000, 100000, 100001, Integer.MAX_VALUE - 1, Integer.MAX_VALUE};
    private static int wrong = 0;

    private static int any(Random r, int usual) {
        return r.nextInt(25) == 0 ? EDGES[r.nextInt(EDGES.length)] : r.nextInt(usual);
    }

    private static long pitches(Random r) {
        long all = 0;
        for (int i = 0; i < 8; i++) {
            int pitch = r.nextInt(40) == 0 ? r.nextInt(256) : r.nextInt(81) - 40;
            all |= (pitch & 255L) << 8 * i;
        }
        return all;
    }

    /** Calls that may change something are 0 to 9. */
    private static long call(MensuralRows x, Random r, int which) {
        int v = any(r, 7);
        switch (which) {
            case 0: return x.voice(any(r, 16));
            case 1: return x.note(v, Math.min(6, any(r, 4) + 2), any(r, 81) - 40, r.nextInt(5) == 0);
            case 2: return x.rest(v, any(r, 7));
            case 3: return x.dot(v);
            case 4: return x.ligature(v, any(r, 16), any(r, 9), pitches(r));
            case 5: return x.proportion(v, any(r, 10), any(r, 10));
            case 6: return x.back(v);
            case 7: return x.pick(v, any(r, 4));
            case 8: return x.canon(v, any(r, 8), any(r, 100001), any(r, 81) - 40);
            case 9: return x.write(any(r, 16), any(r, 4), 3 * any(r, 40), 3 * any(r, 40), 12 * any(r, 20));
            case 10: return x.together();
            case 11: return x.told(v, any(r, 7));
            case 12: return x.symbol(v, any(r, 24), any(r, 4));
            case 13: return x.readings(v);
            case 14: return x.stuck(v);
            case 15: return x.strained(v, any(r, 4));
            case 16: return x.form(v, any(r, 4), any(r, 30));
            case 17: return x.value(v, any(r, 4), any(r, 24));
            case 18: return x.time(v, any(r, 25), any(r, 2));
            case 19: return x.at(v, any(r, 800), any(r, 9));
            case 20: return x.meet(v, any(r, 6), any(r, 2));
            case 21: return x.follower(any(r, 6), any(r, 24), any(r, 5));
            case 22: return x.written(any(r, 6));
            default: return x.count(any(r, 3));
        }
    }

    private static long[] state(MensuralRows x) {
        long[] all = new long[6 * (7 + 24 * 5 + 2) + 6 * 24 * 5 + 6 + 3];
        int n = 0;
        for (int v = 0; v < 6; v++) {
            for (int what = 0; what < 7; what++) {
                all[n++] = x.told(v, what);
            }
            for (int i = 0; i < 24; i++) {
                for (int what = 0; what < 4; what++) {
                    all[n++] = x.symbol(v, i, what);
                }
                all[n++] = x.time(v, i, 0);
            }
            all[n++] = x.readings(v);
            all[n++] = x.stuck(v);
        }
        for (int f = 0; f < 6; f++) {
            for (int i = 0; i < 24; i++) {
                for (int what = 0; what < 5; what++) {
                    all[n++] = x.follower(f, i, what);
                }
            }
        }
        for (int i = 0; i < 6; i++) {
            all[n++] = x.written(i);
        }
        for (int what = 0; what < 3; what++) {
            all[n++] = x.count(what);
        }
        return all;
    }

    private static void wrongAt(String what) {
        wrong++;
        if (wrong < 20) {
            System.out.println(what);
        }
    }

    private static void run(long seed) {
        Random r = new Random(seed);
        MensuralRows x = new MensuralRows(), y = new MensuralRows();
        boolean watched = seed % 4 == 0;
        for (int i = 0; i < 512; i++) {
            int which = r.nextInt(3) == 0 ? 1 + r.nextInt(3) : r.nextInt(24);
            long[] before = watched ? state(x) : null;
            long answer = call(x, new Random(seed * 1000 + i), which);
            if (answer != call(y, new Random(seed * 1000 + i), which)) {
                wrongAt("run " + seed + ", call " + i + ": the same calls answer not the same");
            }
            boolean asks = which > 9 || answer < 0;
            if (watched && asks && !Arrays.equals(before, state(x))) {
                wrongAt("run " + seed + ", call " + i + ": refused or a question, but it changed something");
            }
        }
    }

    private static void extremes() {
        MensuralRows x = new MensuralRows();
        for (int sign = 0; sign < 3; sign++) {
            x.voice(15 - sign);
            x.note(sign, 0, 0, false);
        }
        x.canon(0, 7, 100000, 40);
        for (int a : EDGES) {
            for (int b : EDGES) {
                x.told(a, b);
                x.strained(a, b);
                x.pick(a, b);
                x.count(a);
                x.written(a);
                for (int c : EDGES) {
                    x.symbol(a, b, c);
                    x.form(a, b, c);
                    x.value(a, b, c);
                    x.time(a, b, c);
                    x.at(a, b, c);
                    x.meet(a, b, c);
                    x.follower(a, b, c);
                    x.ligature(a, b, c, 0x0102030405060708L * (a + 3L));
                    x.write(a, 3, b, c, c);
                    x.back(a);
                }
            }
        }
    }

    public static void main(String[] args) {
        for (long seed = 0; seed < 120; seed++) {
            run(seed);
        }
        extremes();
        System.out.println(wrong == 0 ? "nothing is thrown, nothing refused changes anything" : wrong + " wrong");
        if (wrong != 0) {
            System.exit(1);
        }
    }
}
