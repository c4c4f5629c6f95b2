import java.util.Random;

/**
 * The voices of one desk share the room in which rows are read. Here one desk with six voices, with
 * calls on all of them in any order and rows written in between, must answer as six desks with one
 * voice each.
 */
public final class VoicesApartTest {
    private static final int VOICES = 6;
    private static int wrong = 0, compared = 0, readAgain = 0;

    private static long call(MensuralRows x, int v, int which, int[] n) {
        switch (which) {
            case 0: return x.note(v, 2 + n[0] % 4, n[1] % 40, n[2] % 9 == 0);
            case 1: return x.note(v, n[0] % 7, n[1] % 40, n[2] % 3 == 0);
            case 2: return x.rest(v, n[0] % 7);
            case 3: return x.dot(v);
            case 4: return x.ligature(v, n[0] % 16, 2, n[1] % 3 << 8 | 1);
            case 5: return x.proportion(v, 1 + n[0] % 9, 1 + n[1] % 9);
            case 6: case 7: return x.back(v);
            case 8: case 9: case 10: return x.pick(v, n[0] % (1 + Math.max(0, x.readings(v))));
            case 11: return x.told(v, n[0] % 7);
            case 12: return x.symbol(v, n[0] % 24, n[1] % 4);
            case 13: return x.readings(v);
            case 14: return x.stuck(v);
            case 15: return x.strained(v, n[0] % (1 + Math.max(0, x.readings(v))));
            case 16: case 17: case 18: return x.form(v, n[0] % (1 + Math.max(0, x.readings(v))), n[1] % 48);
            case 19: case 20: case 21: return x.value(v, n[0] % (1 + Math.max(0, x.readings(v))), n[1] % 24);
            case 22: return x.time(v, n[0] % 25, n[1] % 2);
            case 23: return x.at(v, n[0] % 1000, 1 + n[1] % 5);
            default: return x.meet(v, v, n[0] % 2);
        }
    }

    private static void due(String call, long got, long want) {
        compared++;
        if (got != want) {
            wrong++;
            System.out.println(call + " answered " + got + ", due is " + want);
        }
    }

    /** Rows that can be read in several ways: those of the ground and the kind below it. */
    private static void fill(Random r, MensuralRows shared, MensuralRows[] apart, int v) {
        int sign = r.nextInt(16);
        due("voice", shared.voice(sign), v);
        apart[v] = new MensuralRows();
        apart[v].voice(sign);
        int ground = shared.told(v, 2), symbols = r.nextInt(20);
        for (int i = 0; i < symbols; i++) {
            int kind = Math.min(6, ground + r.nextInt(3) % 2);
            boolean dotted = r.nextInt(5) == 0;
            due("note", shared.note(v, kind, i, false), apart[v].note(0, kind, i, false));
            if (dotted) {
                due("dot", shared.dot(v), apart[v].dot(0));
            }
        }
    }

    private static void run(int seed) {
        Random r = new Random(seed);
        MensuralRows shared = new MensuralRows();
        MensuralRows[] apart = new MensuralRows[VOICES];
        for (int v = 0; v < VOICES; v++) {
            fill(r, shared, apart, v);
        }
        int before = 0;
        for (int c = 0; c < 300; c++) {
            int v = r.nextInt(VOICES), which = r.nextInt(3) == 0 ? r.nextInt(25) : 8 + r.nextInt(17);
            int[] n = {r.nextInt(1 << 20), r.nextInt(1 << 20), r.nextInt(1 << 20)};
            if (r.nextInt(10) == 0) {
                shared.write(r.nextInt(16), 1 + r.nextInt(3), 12 * (1 + r.nextInt(20)), 24, 36);
            }
            readAgain += v != before && shared.readings(v) > 1 ? 1 : 0;
            before = v;
            due("run " + seed + ", call " + c + " of sort " + which, call(shared, v, which, n), call(apart[v], 0, which, n));
        }
        for (int v = 0; v < VOICES; v++) {
            int how = r.nextInt(8);
            int f = shared.canon(v, how, 7, 3), g = apart[v].canon(0, how, 7, 3);
            due("canon", Math.min(f, 0), Math.min(g, 0));
            for (int i = 0; f >= 0 && i < 25; i++) {
                for (int what = 0; what < 5; what++) {
                    due("follower", shared.follower(f, i, what), apart[v].follower(g, i, what));
                }
            }
        }
    }

    public static void main(String[] args) {
        for (int seed = 0; seed < 1500; seed++) {
            run(seed);
        }
        System.out.println(compared + " answers compared, " + wrong + " wrong; "
            + readAgain + " times a voice with several readings came behind another");
        if (wrong != 0 || readAgain == 0) {
            System.exit(1);
        }
    }
}
