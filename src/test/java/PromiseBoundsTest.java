/**
 * Promises 1 to 25, each sentence that names a bound or an edge: the numbers next to each bound on
 * both sides, numbers far away, rows that are empty or full. The answers were worked out by hand.
 */
public final class PromiseBoundsTest {
    private static final int NONE = Sheet.NONE, BAD = Sheet.BAD, FULL = Sheet.FULL, MANY = Sheet.MANY;
    private static final int SHAPE = Sheet.SHAPE, MOST = Sheet.MOST, LEAST = Sheet.LEAST;

    private static void says(String words) {
        Sheet.says(words);
    }

    private static void due(String call, long got, long want) {
        Sheet.due(call, got, want);
    }

    /** The numbers next to a range on both sides, and far ones. */
    private static int[] outside(int least, int most) {
        int[] all = java.util.Arrays.copyOf(Sheet.FAR, Sheet.FAR.length + 2);
        all[all.length - 2] = least - 1;
        all[all.length - 1] = most + 1;
        return all;
    }

    // ---- promises 1 to 10: what is put down

    private static void newObject() {
        says("No VOICES, no FOLLOWERS, nothing written.");
        MensuralRows x = new MensuralRows();
        for (int what = 0; what < 3; what++) {
            due("count " + what, x.count(what), 0);
        }
        for (int i = -1; i < 7; i++) {
            due("written " + i, x.written(i), NONE);
            due("follower " + i, x.follower(i, 0, 0), BAD);
            due("told " + i, x.told(i, 0), BAD);
            due("symbol " + i, x.symbol(i, 0, 0), BAD);
            due("note " + i, x.note(i, 0, 0, false), BAD);
            due("rest " + i, x.rest(i, 0), BAD);
            due("dot " + i, x.dot(i), BAD);
            due("ligature " + i, x.ligature(i, 0, 2, Sheet.bytes(1, 0)), BAD);
            due("proportion " + i, x.proportion(i, 1, 1), BAD);
            due("back " + i, x.back(i), BAD);
            due("readings " + i, x.readings(i), BAD);
            due("stuck " + i, x.stuck(i), BAD);
            due("strained " + i, x.strained(i, 0), BAD);
            due("form " + i, x.form(i, 0, 0), BAD);
            due("value " + i, x.value(i, 0, 0), BAD);
            due("pick " + i, x.pick(i, 0), BAD);
            due("time " + i, x.time(i, 0, 0), BAD);
            due("at " + i, x.at(i, 0, 1), BAD);
            due("meet " + i, x.meet(i, i, 0), BAD);
            due("canon " + i, x.canon(i, 0, 0, 0), BAD);
        }
        due("together", x.together(), 1);
        // What one object holds is nothing to another.
        MensuralRows y = Sheet.desk(4, "n2");
        due("canon of another", y.canon(0, 0, 0, 0), 0);
        due("write of another", y.write(4, 1, 72, 0, 0), 1);
        due("voices", x.count(0) + x.count(1) + x.count(2), 0);
        due("written", x.written(0), NONE);
    }

    private static void voice() {
        says("A VOICE under a SIGN, PROPORTION 1 to 1: its number. BAD; FULL.");
        MensuralRows x = new MensuralRows();
        for (int sign : outside(0, 15)) {
            due("voice(" + sign + ")", x.voice(sign), BAD);
        }
        int[] signs = {0, 15, 1, 14, 7, 8};
        for (int v = 0; v < 6; v++) {
            due("voice " + v, x.voice(signs[v]), v);
            due("sign", x.told(v, 1), signs[v]);
            due("up", x.told(v, 3), 1);
            due("down", x.told(v, 4), 1);
            due("symbols", x.told(v, 0), 0);
            due("picked", x.told(v, 5), 0);
        }
        for (int sign = 0; sign <= 15; sign++) {
            due("a seventh", x.voice(sign), FULL);
        }
        for (int sign : outside(0, 15)) {
            due("a seventh that is bad", x.voice(sign), BAD);
        }
        due("voices", x.count(0), 6);
        due("the sixth has its sign", x.told(5, 1), 8);
    }

    private static void note() {
        says("A NOTE more: the SYMBOL'S number. BAD; FULL.");
        MensuralRows x = Sheet.desk(4, "");
        for (int bad : outside(0, 0)) {
            due("voice " + bad, x.note(bad, 0, 0, false), BAD);
        }
        for (int bad : outside(0, 6)) {
            due("kind " + bad, x.note(0, bad, 0, false), BAD);
        }
        for (int bad : outside(-40, 40)) {
            due("pitch " + bad, x.note(0, 0, bad, true), BAD);
        }
        due("symbols", x.told(0, 0), 0);
        for (int i = 0; i < 24; i++) {
            due("note " + i, x.note(0, i % 7, i % 2 == 0 ? 40 : -40, i % 2 == 0), i);
        }
        due("a 25th", x.note(0, 0, 0, false), FULL);
        due("the 24th", x.symbol(0, 23, 1) * 100 + x.symbol(0, 23, 2), 200 - 40);
        due("back", x.back(0), 23);
        due("again the 24th", x.note(0, 6, 0, false), 23);
        due("again a 25th", x.note(0, 6, 0, false), FULL);
        picksTheFirstAgain();
    }

    private static void picksTheFirstAgain() {
        says("(What is PICKED is the first READING again, so with rest(), dot(), ligature().)");
        for (int call = 0; call < 8; call++) {
            MensuralRows x = Sheet.desk(4, "n2 . n2");
            due("pick", x.pick(0, 1), 0);
            due("picked", x.told(0, 5), 1);
            long answer = changing(x, call);
            boolean refused = call == 5 || call == 6;
            due("answer " + call, answer, call == 5 ? BAD : call == 6 ? SHAPE : call == 4 ? 2 : call == 7 ? 1 : 3);
            // A proportion changes no reading, and what is refused changes nothing.
            due("picked behind call " + call, x.told(0, 5), refused || call == 7 ? 1 : 0);
            due("so says pick", x.pick(0, 0), refused || call == 7 ? 1 : 0);
        }
        MensuralRows x = Sheet.desk(4, "n2 . " + Sheet.times(22, "n2"));
        due("pick", x.pick(0, 1), 0);
        due("full", x.note(0, 2, 0, false) + x.rest(0, 2) + x.dot(0) + x.ligature(0, 1, 2, Sheet.bytes(1, 0)), 4 * FULL);
        due("still picked", x.told(0, 5), 1);
        // The times are those of the first one again, not only its number.
        MensuralRows y = Sheet.desk(4, "n2 n3 n3 n2");
        due("time of the first", y.time(0, 1, 0), 72);
        due("pick", y.pick(0, 1), 0);
        due("time of the second", y.time(0, 1, 0), 48);
        Sheet.put(y, 0, "n1");
        due("time of the first again", y.time(0, 1, 0), 72);
    }

    private static long changing(MensuralRows x, int call) {
        switch (call) {
            case 0: return x.note(0, 2, 0, false);
            case 1: return x.rest(0, 2);
            case 2: return x.dot(0);
            case 3: return x.ligature(0, 1, 2, Sheet.bytes(1, 0));
            case 4: return x.back(0);
            case 5: return x.note(0, 7, 0, false);
            case 6: return x.ligature(0, 3, 2, Sheet.bytes(1, 0));
            default: return x.proportion(0, 2, 1);
        }
    }

    private static void restAndDot() {
        says("A REST more. BAD; FULL.");
        MensuralRows x = Sheet.desk(4, "");
        for (int bad : outside(0, 0)) {
            due("voice " + bad, x.rest(bad, 0), BAD);
        }
        for (int bad : outside(0, 6)) {
            due("kind " + bad, x.rest(0, bad), BAD);
        }
        for (int i = 0; i < 24; i++) {
            due("rest " + i, x.rest(0, 6 - i % 7), i);
        }
        due("a 25th", x.rest(0, 0), FULL);
        due("the 24th", x.symbol(0, 23, 1), 4);
        says("A DOT more. BAD: also it would stand behind none, or behind a DOT; FULL.");
        MensuralRows y = Sheet.desk(4, "");
        for (int bad : outside(0, 0)) {
            due("voice " + bad, y.dot(bad), BAD);
        }
        due("behind none", y.dot(0), BAD);
        for (int i = 0; i < 24; i += 2) {
            Sheet.put(y, 0, i % 6 == 0 ? "r0" : i % 6 == 2 ? "n6" : "c3");
            due("dot " + (i + 1), y.dot(0), i + 1);
            due("behind a dot", y.dot(0), BAD);
        }
        due("back", y.back(0), 23);
        due("the 24th", y.dot(0), 23);
        due("back", y.back(0), 23);
        Sheet.put(y, 0, "n0");
        due("a 25th", y.dot(0), FULL);
        while (y.told(0, 0) > 0) {
            y.back(0);
        }
        due("behind none again", y.dot(0), BAD);
    }

    private static void ligature() {
        says("A LIGATURE of n NOTES more: the number of the first SYMBOL.");
        for (int held = 0; held <= 22; held++) {
            MensuralRows x = Sheet.desk(0, Sheet.times(held, "r0"));
            due("behind " + held, x.ligature(0, 0, 2, Sheet.bytes(0, 1)), held);
            due("symbols", x.told(0, 0), held + 2);
            due("the last is a note", x.symbol(0, held + 1, 0), 1);
        }
        says("Pitch k is byte k of the pitches, the lowest first, with its sign.");
        MensuralRows x = Sheet.desk(0, "");
        due("eight", x.ligature(0, 0, 8, 0x28D8FF0001D928D8L), 0);
        int[] pitches = {-40, 40, -39, 1, 0, -1, -40, 40};
        for (int i = 0; i < 8; i++) {
            due("pitch " + i, x.symbol(0, i, 2), pitches[i]);
        }
        // Bytes behind the first n are nothing.
        due("two", x.ligature(0, 0, 2, 0x7F80808080800100L), 8);
        due("two", x.ligature(0, 0, 2, 0xFFFFFFFFFFFF0100L), 10);
        due("two", x.ligature(0, 0, 2, 0x0000000000000100L), 12);
        says("BAD: also n, a shape that is not 0 .. 15, or a pitch (of the first n)");
        MensuralRows y = Sheet.desk(0, "");
        for (int bad : outside(0, 0)) {
            due("voice " + bad, y.ligature(bad, 0, 2, Sheet.bytes(0, 1)), BAD);
        }
        for (int bad : outside(0, 15)) {
            due("shape " + bad, y.ligature(0, bad, 2, Sheet.bytes(1, 0)), BAD);
        }
        for (int bad : outside(2, 8)) {
            due("n " + bad, y.ligature(0, 0, bad, 0x0706050403020100L), BAD);
        }
        for (int bad : new int[] {-128, -127, -42, -41, 41, 42, 127}) {
            for (int k = 0; k < 8; k++) {
                int[] all = {0, 1, 2, 3, 4, 5, 6, 7};
                all[k] = bad;
                due("pitch " + bad + " at " + k, y.ligature(0, 0, 8, Sheet.bytes(all)), BAD);
                due("behind the first n", y.ligature(0, 0, Math.max(2, k), Sheet.bytes(all)), k < 2 ? BAD : 0);
                while (y.told(0, 0) > 0) {
                    y.back(0);
                }
            }
        }
        says("SHAPE: no such one, or two neighbours have one pitch");
        for (int shape : new int[] {3, 7, 11, 15}) {
            due("shape " + shape, y.ligature(0, shape, 2, Sheet.bytes(1, 0)), SHAPE);
            due("shape " + shape, y.ligature(0, shape, 2, Sheet.bytes(0, 1)), SHAPE);
        }
        for (int shape = 4; shape < 16; shape += shape == 6 ? 6 : 1) {
            due("rising, shape " + shape, y.ligature(0, shape, 3, Sheet.bytes(5, 0, 1)), SHAPE);
        }
        for (int shape = 0; shape < 16; shape++) {
            due("alike, shape " + shape, y.ligature(0, shape, 2, Sheet.bytes(-7, -7)), SHAPE);
        }
        due("symbols", y.told(0, 0), 0);
        says("FULL (all of them).");
        for (int n = 2; n <= 8; n++) {
            MensuralRows z = Sheet.desk(0, Sheet.times(24 - n + 1, "r0"));
            due("one too many of " + n, z.ligature(0, 0, n, 0x0706050403020100L), FULL);
            due("none of them", z.told(0, 0), 25 - n);
            due("back", z.back(0), 24 - n);
            due("just " + n, z.ligature(0, 0, n, 0x0706050403020100L), 24 - n);
            due("all of them", z.told(0, 0), 24);
        }
    }

    private static void proportion() {
        says("From here on so many for so many (1 .. 9 each): 1. BAD; FULL: together one of them would be above 1000.");
        MensuralRows x = Sheet.desk(4, "");
        for (int bad : outside(0, 0)) {
            due("voice " + bad, x.proportion(bad, 1, 1), BAD);
        }
        for (int bad : outside(1, 9)) {
            due("up " + bad, x.proportion(0, bad, 1), BAD);
            due("down " + bad, x.proportion(0, 1, bad), BAD);
            due("both " + bad, x.proportion(0, bad, bad), BAD);
        }
        for (int up = 1; up <= 9; up++) {
            for (int down = 1; down <= 9; down++) {
                due("there", x.proportion(0, up, down), 1);
                int common = java.math.BigInteger.valueOf(up).gcd(java.math.BigInteger.valueOf(down)).intValue();
                due("up", x.told(0, 3), up / common);
                due("down", x.told(0, 4), down / common);
                due("and back", x.proportion(0, down, up), 1);
                due("1 to 1", x.told(0, 3) * 10 + x.told(0, 4), 11);
            }
        }
        int[][] factors = {{9, 9, 9}, {8, 5, 5, 5}, {9, 8, 7}, {7, 7, 7}, {8, 8, 8}, {5, 5, 5, 5}};
        int[][] tooGreat = {{2, 3, 4, 5, 6, 7, 8, 9}, {2, 9}, {2, 3}, {3, 4}, {2, 3}, {2, 3}};
        for (int i = 0; i < factors.length; i++) {
            bound(factors[i], tooGreat[i], false);
            bound(factors[i], tooGreat[i], true);
        }
        // A full row takes proportions still: they bind what would come then.
        MensuralRows y = Sheet.desk(4, Sheet.times(24, "n2"));
        due("behind 24", y.proportion(0, 9, 1), 1);
        due("the end stays", y.time(0, 24, 0), 24 * 72);
    }

    private static void bound(int[] factors, int[] tooGreat, boolean turned) {
        MensuralRows x = Sheet.desk(4, "");
        int all = 1;
        for (int f : factors) {
            due("times " + f, turned ? x.proportion(0, 1, f) : x.proportion(0, f, 1), 1);
            all *= f;
        }
        due("together", x.told(0, turned ? 4 : 3), all);
        for (int f : tooGreat) {
            due(all + " times " + f, turned ? x.proportion(0, 1, f) : x.proportion(0, f, 1), all * f > 1000 ? FULL : 1);
            due("stays", x.told(0, turned ? 4 : 3), all);
            due("the other stays", x.told(0, turned ? 3 : 4), 1);
        }
    }

    private static void back() {
        says("The last SYMBOL goes: how many are left (PROPORTIONS stay as they are; what is PICKED is the first READING "
            + "again). BAD; NONE: there is none.");
        MensuralRows x = Sheet.desk(4, "");
        for (int bad : outside(0, 0)) {
            due("voice " + bad, x.back(bad), BAD);
        }
        due("none", x.back(0), NONE);
        Sheet.put(x, 0, Sheet.times(12, "n2 ."));
        for (int left = 23; left >= 0; left--) {
            due("back", x.back(0), left);
            due("symbols", x.told(0, 0), left);
            due("symbols of all", x.count(2), left);
            due("the last went", x.symbol(0, left, 0), BAD);
        }
        due("none", x.back(0), NONE);
        Sheet.put(x, 0, "n2");
        due("3 for 2", x.proportion(0, 3, 2), 1);
        Sheet.put(x, 0, "n2");
        due("back", x.back(0), 1);
        due("back", x.back(0), 0);
        due("none", x.back(0), NONE);
        due("the proportion stays", x.told(0, 3) * 10 + x.told(0, 4), 32);
        Sheet.put(x, 0, "n2");
        due("under it", x.time(0, 1, 0), 48);
        MensuralRows y = Sheet.desk(4, "n2 . n2 . n2");
        due("pick", y.pick(0, 3), 0);
        due("back", y.back(0), 4);
        due("the first again", y.told(0, 5), 0);
    }

    private static void told() {
        says("Of a VOICE: what = 0 SYMBOLS, 1 its SIGN, 2 its GROUND, 3, 4 the PROPORTION now (up, down), 5 which READING is "
            + "PICKED, 6 FULL of the GROUND. BAD.");
        MensuralRows x = Sheet.desk(12, "n2 . r2");
        due("proportion", x.proportion(0, 7, 5), 1);
        due("pick", x.pick(0, 1), 0);
        int[] want = {3, 12, 2, 7, 5, 1, 108};
        for (int what = 0; what < 7; what++) {
            due("told " + what, x.told(0, what), want[what]);
        }
        for (int bad : outside(0, 6)) {
            due("what " + bad, x.told(0, bad), BAD);
        }
        for (int bad : outside(0, 0)) {
            due("voice " + bad, x.told(bad, 0), BAD);
        }
        due("without a reading", Sheet.desk(4, "n3").told(0, 5), 0);
    }

    private static void symbol() {
        says("Of a SYMBOL: what = 0 its sort (1 NOTE, 2 REST, 3 DOT), 1 its KIND, 2 its pitch, 3 whether it is COLOURED (1 or "
            + "0; of 1 to 3 NONE, where it has none). BAD.");
        MensuralRows x = Sheet.desk(0, "n6:-40 . c0:40 . r6 . n0:-1");
        int[][] want = {{1, 6, -40, 0}, {3, NONE, NONE, NONE}, {1, 0, 40, 1}, {3, NONE, NONE, NONE}, {2, 6, NONE, NONE},
            {3, NONE, NONE, NONE}, {1, 0, -1, 0}};
        for (int i = 0; i < want.length; i++) {
            for (int what = 0; what < 4; what++) {
                due("symbol " + i + " " + what, x.symbol(0, i, what), want[i][what]);
            }
            for (int bad : outside(0, 3)) {
                due("what " + bad, x.symbol(0, i, bad), BAD);
            }
        }
        for (int bad : outside(0, 6)) {
            due("i " + bad, x.symbol(0, bad, 0), BAD);
        }
        for (int bad : outside(0, 0)) {
            due("voice " + bad, x.symbol(bad, 0, 0), BAD);
        }
        due("of an empty row", Sheet.desk(0, "").symbol(0, 0, 0), BAD);
    }

    // ---- promises 11 to 16: readings

    private static void readings() {
        says("How many READINGS a ROW has. BAD; MANY.");
        MensuralRows x = Sheet.desk(8, "");
        for (int bad : outside(0, 0)) {
            due("voice " + bad, x.readings(bad), BAD);
        }
        due("of an empty row", x.readings(0), 1);
        for (int n = 1; n <= 12; n++) {
            Sheet.put(x, 0, "n3");
            due("as before", x.readings(0), n > 10 ? MANY : 1 << n - 1);
            Sheet.put(x, 0, ".");
            due("twice as many", x.readings(0), n > 9 ? MANY : 1 << n);
        }
        for (int n = 11; n >= 9; n--) {
            due("back", x.back(0), 2 * n + 1);
            due("back", x.back(0), 2 * n);
            due("half as many", x.readings(0), n > 9 ? MANY : 512);
        }
        due("none", Sheet.desk(8, "n4").readings(0), 0);
        due("24 symbols", Sheet.desk(0, Sheet.times(24, "n4")).readings(0), 1);
        says("Where a ROW is STUCK; NONE: it has a READING. BAD.");
        for (int bad : outside(0, 0)) {
            due("voice " + bad, x.stuck(bad), BAD);
        }
        due("at once", Sheet.desk(8, "n4").stuck(0), 0);
        due("at the last", Sheet.desk(8, Sheet.times(23, "r3") + " r4").stuck(0), 23);
        due("an empty row has one", Sheet.desk(8, "").stuck(0), NONE);
        due("MANY are some", Sheet.manyDesk().stuck(0), NONE);
        due("many beginnings", Sheet.desk(8, Sheet.MANY_ROW + " n4").stuck(0), 20);
        due("and it has none", Sheet.desk(8, Sheet.MANY_ROW + " n4").readings(0), 0);
    }

    private static void ofReadings() {
        says("By how much a READING is STRAINED. NONE: there is none such; BAD; MANY.");
        MensuralRows x = Sheet.desk(4, "n2 n3 n3 n2"), unread = Sheet.desk(4, "n3"), many = Sheet.manyDesk();
        due("the first", x.strained(0, 0), 2);
        due("the last", x.strained(0, 1), 4);
        for (int none : outside(0, 1)) {
            due("reading " + none, x.strained(0, none), NONE);
            due("many, " + none, many.strained(0, none), MANY);
        }
        for (int bad : outside(0, 0)) {
            due("voice " + bad, x.strained(bad, 0), BAD);
        }
        due("no reading", unread.strained(0, 0), NONE);
        says("FORM i of a READING. NONE: there is none such; BAD; MANY.");
        due("the first", x.form(0, 1, 0), 7);
        due("the last", x.form(0, 1, 3), 1);
        for (int none : outside(0, 3)) {
            due("form " + none, x.form(0, 0, none), NONE);
            due("many, " + none, many.form(0, 0, none), MANY);
        }
        for (int none : outside(0, 1)) {
            due("reading " + none, x.form(0, none, 0), NONE);
        }
        for (int bad : outside(0, 0)) {
            due("voice " + bad, x.form(bad, 0, 0), BAD);
        }
        due("no reading", unread.form(0, 0, 0), NONE);
        longestForms();
        says("What a SYMBOL is in a READING, in TICKS (0 of DOTS). NONE: no such READING, SYMBOL; BAD; MANY.");
        MensuralRows dotted = Sheet.desk(4, "n2 . n2");
        int[] values = {72, 0, 72};
        for (int i = 0; i < 3; i++) {
            due("value " + i, dotted.value(0, 0, i), values[i]);
            due("value " + i, dotted.value(0, 1, i), values[i]);
        }
        for (int none : outside(0, 2)) {
            due("symbol " + none, dotted.value(0, 1, none), NONE);
            due("many, " + none, many.value(0, 0, none), MANY);
        }
        for (int none : outside(0, 1)) {
            due("reading " + none, dotted.value(0, none, 0), NONE);
        }
        for (int bad : outside(0, 0)) {
            due("voice " + bad, dotted.value(bad, 0, 0), BAD);
        }
        due("no reading", unread.value(0, 0, 0), NONE);
        due("the last of 24", Sheet.desk(0, Sheet.times(23, "n4") + " n0").value(0, 0, 23), 192);
        due("behind 24", Sheet.desk(0, Sheet.times(24, "n4")).value(0, 0, 24), NONE);
    }

    /** Twenty-four symbols in as many forms as there can be. */
    private static void longestForms() {
        MensuralRows x = Sheet.desk(0, Sheet.times(24, "c6"));
        int[] forms = {4, 5, 15, 16, 16, 16, 5, 15, 16, 16, 16};
        due("readings", x.readings(0), 16);
        for (int i = 0; i < 44; i++) {
            due("form " + i, x.form(0, 0, i), forms[i % 11]);
        }
        due("no form more", x.form(0, 0, 44), NONE);
        due("the last reading", x.form(0, 15, 19), 17);
        due("no form more", x.form(0, 15, 20), NONE);
    }

    private static void pick() {
        says("A READING is PICKED: which one was. NONE: there is none such; BAD; MANY.");
        MensuralRows x = Sheet.desk(4, "n2 . n2 .");
        int before = 0;
        for (int reading : new int[] {3, 3, 0, 2, 1, 3}) {
            due("pick " + reading, x.pick(0, reading), before);
            before = reading;
        }
        for (int none : outside(0, 3)) {
            due("pick " + none, x.pick(0, none), NONE);
            due("many, " + none, Sheet.manyDesk().pick(0, none), MANY);
        }
        for (int bad : outside(0, 0)) {
            due("voice " + bad, x.pick(bad, 0), BAD);
        }
        due("the last is picked still", x.told(0, 5), 3);
        due("no reading", Sheet.desk(4, "n3").pick(0, 0), NONE);
        due("an empty row", Sheet.desk(4, "").pick(0, 0), 0);
    }

    // ---- promises 17 to 20: times

    private static void time() {
        says("The time at which a SYMBOL begins (or, i as many as there are, at which all ends), in the READING PICKED: part 0 "
            + "numerator, 1 denominator. NONE: there is no READING, no such SYMBOL; BAD; MANY.");
        MensuralRows x = Sheet.desk(4, "n2 n3 n3 n2 .");
        long[][] begins = {{0, 72, 96, 144, 216, 216}, {0, 72, 96, 144, 216, 216}, {0, 48, 72, 96, 144, 144}};
        due("readings", x.readings(0), 3);
        for (int reading = 0; reading < 3; reading++) {
            x.pick(0, reading);
            for (int i = 0; i <= 5; i++) {
                due("time " + i, x.time(0, i, 0), begins[reading][i]);
                due("time by " + i, x.time(0, i, 1), 1);
            }
        }
        for (int none : outside(0, 5)) {
            due("i " + none, x.time(0, none, 0), NONE);
            due("i by " + none, x.time(0, none, 1), NONE);
        }
        for (int bad : outside(0, 1)) {
            due("part " + bad, x.time(0, 0, bad), BAD);
        }
        for (int bad : outside(0, 0)) {
            due("voice " + bad, x.time(bad, 0, 0), BAD);
        }
        due("no reading", Sheet.desk(4, "n3").time(0, 0, 0), NONE);
        due("many", Sheet.manyDesk().time(0, 0, 0), MANY);
        MensuralRows full = Sheet.desk(0, Sheet.times(24, "n4"));
        due("the end of 24", full.time(0, 24, 0), 288);
        due("no 26th", full.time(0, 25, 0), NONE);
    }

    private static void at() {
        says("The SYMBOL that lasts at time up / down (from its beginning on, till before its end; not DOTS).");
        MensuralRows x = Sheet.desk(4, "n2 .");
        x.proportion(0, 7, 1);
        Sheet.put(x, 0, "r2 . n2");
        int[][] want = {{0, 1, 0}, {0, MOST, 0}, {1, MOST, 0}, {71, 1, 0}, {71999, 1000, 0}, {72, 1, 2}, {144, 2, 2},
            {575, 7, 2}, {576, 7, 4}, {1152, 14, 4}, {647, 7, 4}};
        for (int[] w : want) {
            due("at " + w[0] + " / " + w[1], x.at(0, w[0], w[1]), w[2]);
        }
        // 576 / 7 is 82 and 2 / 7: times on both sides, with greater and lesser numbers, the nearest ones at last.
        due("82 1/2", x.at(0, 165, 2), 4);
        due("82 28/100", x.at(0, 8228, 100), 2);
        due("82 29/100", x.at(0, 8229, 100), 4);
        due("82 1/4", x.at(0, 329, 4), 2);
        due("82", x.at(0, 82, 1), 2);
        due("just that", x.at(0, 1728000000, 21000000), 4);
        due("just behind it", x.at(0, 1728000001, 21000000), 4);
        due("just before it", x.at(0, 1727999999, 21000000), 2);
        MensuralRows sevenths = Sheet.desk(4, "");
        sevenths.proportion(0, 7, 1);
        Sheet.put(sevenths, 0, "n2 n2 n2 n2 n2");
        // The fifth begins at 41 and 1 / 7, which is 41 and 10 / 70.
        due("41 9/70", sevenths.at(0, 2879, 70), 3);
        due("41 10/70", sevenths.at(0, 2880, 70), 4);
        due("41 11/70", sevenths.at(0, 2881, 70), 4);
        due("numbers near each other", x.at(0, MOST, MOST - 1), 0);
        due("far from 72", x.at(0, MOST, 29826161), 2);
        due("just below 72", x.at(0, MOST, 29826162), 0);
        says("NONE: there is none; BAD: also up is below 0, or down below 1; MANY.");
        due("the end", x.at(0, 648, 7), NONE);
        due("behind it", x.at(0, MOST, 1), NONE);
        for (int bad : new int[] {-1, -2, LEAST}) {
            due("up " + bad, x.at(0, bad, 1), BAD);
            due("down " + bad, x.at(0, 1, bad), BAD);
            due("both " + bad, x.at(0, bad, bad), BAD);
        }
        due("down 0", x.at(0, 1, 0), BAD);
        for (int bad : outside(0, 0)) {
            due("voice " + bad, x.at(bad, 0, 1), BAD);
        }
        due("an empty row", Sheet.desk(4, "").at(0, 0, 1), NONE);
        due("no reading", Sheet.desk(4, "n3").at(0, 0, 1), NONE);
        due("many", Sheet.manyDesk().at(0, 0, 1), MANY);
    }

    private static void together() {
        says("Whether all VOICES have a READING and end at one time (1 or 0; 1 without VOICES). MANY: of some VOICE.");
        due("without voices", new MensuralRows().together(), 1);
        MensuralRows x = new MensuralRows();
        int[] signs = {0, 1, 2, 4, 8, 2};
        for (int v = 0; v < 6; v++) {
            Sheet.add(x, signs[v], "");
            due("empty rows end at 0", x.together(), 1);
        }
        for (int v = 0; v < 6; v++) {
            // Half of the voices go twice as fast.
            int quick = v % 2;
            due("proportion", x.proportion(v, 1 + quick, 1), 1);
            Sheet.put(x, v, Sheet.times((1 + quick) * 288 / fullOf(x, v), "n" + x.told(v, 2)));
            due("behind voice " + v, x.together(), v == 5 ? 1 : 0);
        }
        Sheet.put(x, 5, "n0");
        due("the last is longer", x.together(), 0);
        due("back", x.back(5) >= 0 ? 1 : 0, 1);
        due("again", x.together(), 1);
        Sheet.put(x, 5, "n6");
        due("the last has no reading", x.together(), 0);
        MensuralRows emptied = Sheet.desk(4, "n2");
        Sheet.add(emptied, 4, "");
        due("one is empty", emptied.together(), 0);
        due("back", emptied.back(0), 0);
        due("both are", emptied.together(), 1);
        MensuralRows y = Sheet.desk(4, "n3");
        due("no reading", y.together(), 0);
        Sheet.add(y, 4, "n3");
        due("none has one", y.together(), 0);
        Sheet.add(y, Sheet.MANY_SIGN, Sheet.MANY_ROW);
        due("many, behind those that have none", y.together(), MANY);
        MensuralRows z = Sheet.manyDesk();
        Sheet.add(z, 4, "n3");
        due("many, before one that has none", z.together(), MANY);
        MensuralRows w = Sheet.desk(4, "n2 n3 n3 n2");
        Sheet.add(w, 4, "n2 n2");
        due("as picked", w.together(), 0);
        due("pick", w.pick(0, 1), 0);
        due("as picked now", w.together(), 1);
    }

    private static int fullOf(MensuralRows x, int voice) {
        return Math.max(1, x.told(voice, 6));
    }

    private static void meet() {
        says("Of all beginnings of NOTES of both of two VOICES at one time: what = 0 how many, 1 how many of these with pitches "
            + "0, 2, 4, 5 apart (modulo 7, the lower one taken from the higher one).");
        int[] sweet = {1, 0, 1, 0, 1, 1, 0};
        MensuralRows x = Sheet.desk(0, "n4");
        x.voice(0);
        for (int high = -40; high <= 40; high++) {
            int apart = high + 40;
            due("low", x.note(1, 4, -40, false), 0);
            due("back", x.back(0), 0);
            due("high", x.note(0, 4, high, false), 0);
            due("apart " + apart, x.meet(0, 1, 0), 1);
            due("apart " + apart, x.meet(0, 1, 1), sweet[apart % 7]);
            due("turned " + apart, x.meet(1, 0, 1), sweet[apart % 7]);
            due("back", x.back(1), 0);
        }
        MensuralRows y = Sheet.desk(0, Sheet.times(24, "n4"));
        Sheet.add(y, 0, Sheet.times(24, "n4:1"));
        Sheet.add(y, 0, Sheet.times(24, "r4"));
        Sheet.add(y, 0, Sheet.times(12, "n3:2"));
        Sheet.add(y, 0, "");
        due("all of 24", y.meet(0, 1, 0), 24);
        due("none is sweet", y.meet(0, 1, 1), 0);
        due("with itself", y.meet(0, 0, 0) + y.meet(0, 0, 1), 48);
        due("rests do not begin so", y.meet(0, 2, 0) + y.meet(2, 2, 0), 0);
        due("each second", y.meet(3, 0, 0), 12);
        due("each second, sweet", y.meet(3, 0, 1), 12);
        due("an empty row", y.meet(0, 4, 0) + y.meet(4, 4, 1), 0);
        says("NONE: one has no READING; BAD; MANY.");
        for (int bad : outside(0, 4)) {
            due("a " + bad, y.meet(bad, 0, 0), BAD);
            due("b " + bad, y.meet(0, bad, 0), BAD);
        }
        for (int bad : outside(0, 1)) {
            due("what " + bad, y.meet(0, 1, bad), BAD);
        }
        Sheet.add(y, 4, "n3");
        due("no reading", y.meet(0, 5, 0), NONE);
        due("no reading", y.meet(5, 0, 1), NONE);
        due("no reading", y.meet(5, 5, 1), NONE);
        due("many", Sheet.manyDesk().meet(0, 0, 0), MANY);
    }

    // ---- promises 21 to 25

    private static void canon() {
        says("A FOLLOWER of a VOICE, how a sum of 1, 2, 4, so many TICKS (0 .. 100000) behind, pitches so many higher (-40 .. "
            + "40): its number. BAD; MANY; NONE: the VOICE has no READING; FULL.");
        MensuralRows x = Sheet.desk(4, "n2:5");
        for (int bad : outside(0, 0)) {
            due("voice " + bad, x.canon(bad, 0, 0, 0), BAD);
        }
        for (int bad : outside(0, 7)) {
            due("how " + bad, x.canon(0, bad, 0, 0), BAD);
        }
        for (int bad : outside(0, 100000)) {
            due("behind " + bad, x.canon(0, 0, bad, 0), BAD);
        }
        for (int bad : outside(-40, 40)) {
            due("higher " + bad, x.canon(0, 0, 0, bad), BAD);
        }
        due("followers", x.count(1), 0);
        due("no reading", Sheet.desk(4, "n3").canon(0, 0, 0, 0), NONE);
        due("many", Sheet.manyDesk().canon(0, 0, 0, 0), MANY);
        int[][] edges = {{0, 0, -40}, {7, 100000, 40}, {1, 1, 39}, {2, 99999, -39}, {4, 0, 0}, {3, 100000, -40}};
        for (int f = 0; f < 6; f++) {
            due("canon " + f, x.canon(0, edges[f][0], edges[f][1], edges[f][2]), f);
            due("pitch", x.follower(f, 0, 0), 5 + edges[f][2]);
            due("begins", x.follower(f, 0, 1), edges[f][1]);
            due("lasts", x.follower(f, 0, 3), edges[f][0] >= 4 ? 144 : 72);
        }
        for (int how = 0; how < 8; how++) {
            due("a seventh", x.canon(0, how, 0, 0), FULL);
        }
        due("followers", x.count(1), 6);
        MensuralRows y = Sheet.desk(4, "");
        due("of an empty row", y.canon(0, 7, 0, 40), 0);
        due("none in it", y.follower(0, 0, 0), NONE);
        due("one more", y.canon(0, 0, 0, 0), 1);
    }

    private static void follower() {
        says("Of the i-th one of a FOLLOWER: what = 0 its pitch (of RESTS 1000), 1, 2 the time of its beginning (numerator, "
            + "denominator), 3, 4 how long it is. NONE: there is none such; BAD.");
        MensuralRows x = Sheet.desk(4, "");
        x.proportion(0, 7, 1);
        Sheet.put(x, 0, "n2:3 . r2 . n2:-3");
        due("canon", x.canon(0, 0, 1, 1), 0);
        long[][] want = {{4, 1, 1, 72, 7}, {1000, 79, 7, 72, 7}, {-2, 151, 7, 72, 7}};
        for (int i = 0; i < 3; i++) {
            for (int what = 0; what < 5; what++) {
                due("follower " + i + " " + what, x.follower(0, i, what), want[i][what]);
            }
        }
        for (int none : outside(0, 2)) {
            due("i " + none, x.follower(0, none, 0), NONE);
        }
        for (int bad : outside(0, 4)) {
            due("what " + bad, x.follower(0, 0, bad), BAD);
        }
        for (int bad : outside(0, 0)) {
            due("f " + bad, x.follower(bad, 0, 0), BAD);
        }
        MensuralRows y = Sheet.desk(0, Sheet.times(24, "n4:9"));
        due("canon of 24", y.canon(0, 7, 0, 0), 0);
        due("the 24th begins", y.follower(0, 23, 1), 23 * 24);
        due("the 24th's pitch", y.follower(0, 23, 0), 9);
        due("no 25th", y.follower(0, 24, 0), NONE);
    }

    private static void isWritten(int sign, String want, int... values) {
        MensuralRows x = new MensuralRows();
        int n = values.length, b = n > 1 ? values[1] : LEAST, c = n > 2 ? values[2] : LEAST;
        String name = "sign " + sign + ": " + java.util.Arrays.toString(values);
        due(name, x.write(sign, n, values[0], b, c), want.isEmpty() ? NONE : want.length());
        for (int i = 0; i < want.length(); i++) {
            due(name + ", symbol " + i, x.written(i), want.charAt(i) - '0');
        }
        due(name + ", behind", x.written(want.length()), NONE);
        due(name + " is no voice", x.count(0) + x.count(2), 0);
    }

    private static void write() {
        says("A ROW of n (1 .. 3) plain NOTES under a SIGN, some with DOTS behind, whose first READING has just these values "
            + "(the first n of a, b, c, in TICKS; each of them 1 and more)");
        MensuralRows x = new MensuralRows();
        for (int bad : outside(0, 15)) {
            due("sign " + bad, x.write(bad, 1, 72, 72, 72), BAD);
        }
        for (int bad : outside(1, 3)) {
            due("n " + bad, x.write(4, bad, 72, 72, 72), BAD);
        }
        for (int bad : new int[] {0, -1, LEAST}) {
            due("a " + bad, x.write(4, 1, bad, 72, 72), BAD);
            due("b " + bad, x.write(4, 2, 72, bad, 72), BAD);
            due("c " + bad, x.write(4, 3, 72, 72, bad), BAD);
            due("b not asked for " + bad, x.write(4, 1, 72, bad, bad), 1);
            due("c not asked for " + bad, x.write(4, 2, 72, 72, bad), 2);
        }
        isWritten(4, "", 1);
        isWritten(4, "", 1, 1, 1);
        isWritten(0, "4", 12);
        isWritten(0, "0", 192);
        isWritten(0, "07", 288);
        isWritten(15, "0", 972);
        isWritten(15, "", 973);
        isWritten(15, "", MOST);
        isWritten(0, "", MOST, MOST, MOST);
        isWritten(0, "000", 192, 192, 192);
        isWritten(0, "070707", 288, 288, 288);
        isWritten(0, "0700", 288, 192, 192);
        says("with the fewest DOTS; of these with the least KIND of the first, then whether that has no DOT, and so on");
        isWritten(4, "222", 72, 72, 72);
        // The second could be of kind 3 just so, and of kind 2 or 3 with a dot more.
        isWritten(4, "320", 24, 48, 288);
        isWritten(4, "3217", 24, 48, 216);
        isWritten(6, "2107", 72, 144, 648);
        isWritten(4, "23", 48, 24);
        isWritten(4, "32", 24, 48);
        isWritten(4, "332", 24, 48, 72);
        isWritten(8, "443", 12, 24, 36);
        isWritten(8, "432", 12, 24, 72);
        isWritten(8, "3743", 36, 12, 24);
        isWritten(4, "333", 24, 24, 24);
        isWritten(0, "475", 18, 6);
        isWritten(0, "547", 6, 18);
        isWritten(0, "4576", 12, 9, 3);
        isWritten(0, "", 6, 9, 3);
    }

    private static void written() {
        says("how many SYMBOLS it has, it is written then. NONE: there is none (what was written stays); BAD.");
        MensuralRows x = new MensuralRows();
        due("none", x.write(4, 1, 5, 0, 0), NONE);
        due("nothing is written", x.written(0), NONE);
        due("six", x.write(0, 3, 288, 288, 288), 6);
        int[] want = {0, 7, 0, 7, 0, 7};
        for (int turn = 0; turn < 3; turn++) {
            for (int i = 0; i < 6; i++) {
                due("symbol " + i, x.written(i), want[i]);
            }
            due("none", x.write(4, 1, 5, 0, 0), NONE);
            due("bad", x.write(4, 0, 72, 0, 0), BAD);
        }
        says("Of what is written: SYMBOL i: its KIND, 7 a DOT; NONE.");
        for (int none : outside(0, 5)) {
            due("written " + none, x.written(none), NONE);
        }
        due("one", x.write(4, 1, 72, 0, 0), 1);
        due("its kind", x.written(0), 2);
        for (int i = 1; i < 7; i++) {
            due("nothing is left of the longer one", x.written(i), NONE);
        }
    }

    private static void count() {
        says("What = 0 VOICES, 1 FOLLOWERS, 2 SYMBOLS of all. BAD.");
        MensuralRows x = new MensuralRows();
        for (int bad : outside(0, 2)) {
            due("what " + bad, x.count(bad), BAD);
        }
        for (int v = 0; v < 6; v++) {
            due("voice", x.voice(0), v);
            due("voices", x.count(0), v + 1);
            Sheet.put(x, v, Sheet.times(24, "n4"));
            due("symbols", x.count(2), 24 * (v + 1));
            due("canon", x.canon(v, 0, 0, 0), v);
            due("followers", x.count(1), v + 1);
        }
        due("full", x.voice(0) + x.canon(0, 0, 0, 0) + x.note(5, 0, 0, false), 3 * FULL);
        due("all", x.count(0) * 10000 + x.count(1) * 1000 + x.count(2), 66144);
    }

    private static void manyCalls() {
        says("An object is used for at most 512 calls after it has been made");
        MensuralRows x = new MensuralRows();
        int calls = 0;
        for (int v = 0; v < 6; v++, calls++) {
            due("voice", x.voice(v), v);
        }
        for (; calls < 150; calls++) {
            due("note", x.note(calls % 6, 0, calls % 40, false), (calls - 6) / 6);
        }
        for (; calls < 510; calls++) {
            due("full", x.note(calls % 6, 0, 0, false), FULL);
        }
        due("call 511", x.readings(0), 1);
        due("call 512", x.time(5, 24, 0), 24 * 432);
    }

    public static void main(String[] args) {
        newObject();
        voice();
        note();
        restAndDot();
        ligature();
        proportion();
        back();
        told();
        symbol();
        readings();
        ofReadings();
        pick();
        time();
        at();
        together();
        meet();
        canon();
        follower();
        write();
        written();
        count();
        manyCalls();
        Sheet.end();
    }
}
