/** Each promise of the document: ordinary inputs, its edges, wrong inputs. The values were worked out by hand. */
public final class PromisesTest {
    private static final int NONE = -1, BAD = -2, FULL = -3, MANY = -4, SHAPE = -5;
    private static final int LEAST = Integer.MIN_VALUE, MOST = Integer.MAX_VALUE;
    private static int wrong = 0, compared = 0;
    private static String promise = "";

    private static void due(String call, long got, long want) {
        compared++;
        if (got != want) {
            wrong++;
            System.out.println(promise + ": " + call + " answered " + got + ", due is " + want);
        }
    }

    /** Symbols as words: n2 a plain note, c2 a coloured one, r2 a rest, "." a dot. */
    private static void put(MensuralRows x, int voice, String row) {
        for (String word : row.trim().split(" +")) {
            if (word.equals(".")) {
                x.dot(voice);
            } else if (!word.isEmpty()) {
                int kind = word.charAt(1) - '0';
                if (word.charAt(0) == 'r') {
                    x.rest(voice, kind);
                } else {
                    x.note(voice, kind, 0, word.charAt(0) == 'c');
                }
            }
        }
    }

    private static MensuralRows desk(int sign, String row) {
        MensuralRows x = new MensuralRows();
        x.voice(sign);
        put(x, 0, row);
        return x;
    }

    private static MensuralRows many() {
        return desk(8, "n3 . n3 . n3 . n3 . n3 . n3 . n3 . n3 . n3 . n3 .");
    }

    private static long bytes(int... pitches) {
        long all = 0;
        for (int i = 0; i < pitches.length; i++) {
            all |= (pitches[i] & 255L) << 8 * i;
        }
        return all;
    }

    private static void newObject() {
        promise = "1 a new object";
        MensuralRows x = new MensuralRows();
        for (int what = 0; what < 3; what++) {
            due("count " + what, x.count(what), 0);
        }
        due("written(0)", x.written(0), NONE);
        due("told(0, 0)", x.told(0, 0), BAD);
        due("follower(0, 0, 0)", x.follower(0, 0, 0), BAD);
        due("together()", x.together(), 1);
        due("constants", MensuralRows.NONE * 10000 + MensuralRows.BAD * 1000 + MensuralRows.FULL * 100
                + MensuralRows.MANY * 10 + MensuralRows.SHAPE, -12345);
    }

    private static void voice() {
        promise = "2 voice";
        MensuralRows x = new MensuralRows();
        for (int bad : new int[] {-1, 16, LEAST, MOST}) {
            due("voice(" + bad + ")", x.voice(bad), BAD);
        }
        for (int i = 0; i < 6; i++) {
            due("voice " + i, x.voice(3 * i), i);
            due("its sign", x.told(i, 1), 3 * i);
            due("its up", x.told(i, 3), 1);
            due("its down", x.told(i, 4), 1);
        }
        due("a seventh", x.voice(0), FULL);
        due("a seventh, bad", x.voice(16), BAD);
        due("count(0)", x.count(0), 6);
    }

    private static void note() {
        promise = "3 note";
        MensuralRows x = new MensuralRows();
        due("without a voice", x.note(0, 0, 0, false), BAD);
        x.voice(0);
        int[][] bad = {{-1, 0, 0}, {1, 0, 0}, {MOST, 0, 0}, {0, -1, 0}, {0, 7, 0}, {0, LEAST, 0}, {0, 0, -41},
            {0, 0, 41}, {0, 0, LEAST}, {0, 0, MOST}};
        for (int[] b : bad) {
            due("note " + b[0] + " " + b[1] + " " + b[2], x.note(b[0], b[1], b[2], false), BAD);
        }
        due("told(0, 0)", x.told(0, 0), 0);
        for (int i = 0; i < 24; i++) {
            due("note " + i, x.note(0, i % 7, i % 2 == 0 ? 40 : -40, i % 3 == 0), i);
        }
        due("a 25th", x.note(0, 0, 0, false), FULL);
        due("a 25th, bad", x.note(0, 7, 0, false), BAD);
        due("told(0, 0)", x.told(0, 0), 24);
        picksFirstAgain();
    }

    private static void picksFirstAgain() {
        String row = "n2 . n2";
        for (int call = 0; call < 6; call++) {
            MensuralRows x = desk(4, row);
            due("readings", x.readings(0), 2);
            due("pick", x.pick(0, 1), 0);
            switch (call) {
                case 0: x.note(0, 2, 0, false); break;
                case 1: x.rest(0, 2); break;
                case 2: x.dot(0); break;
                case 3: x.ligature(0, 1, 2, bytes(1, 0)); break;
                case 4: x.back(0); break;
                default: x.proportion(0, 2, 1); break;
            }
            due("picked behind call " + call, x.told(0, 5), call == 5 ? 1 : 0);
        }
        MensuralRows x = desk(4, row);
        x.pick(0, 1);
        due("refused", x.note(0, 7, 0, false) + x.ligature(0, 3, 2, bytes(1, 0)), BAD + SHAPE);
        due("still picked", x.told(0, 5), 1);
    }

    private static void rest() {
        promise = "4 rest";
        MensuralRows x = new MensuralRows();
        due("without a voice", x.rest(0, 0), BAD);
        x.voice(0);
        due("kind -1", x.rest(0, -1), BAD);
        due("kind 7", x.rest(0, 7), BAD);
        due("voice 1", x.rest(1, 0), BAD);
        for (int i = 0; i < 24; i++) {
            due("rest " + i, x.rest(0, i % 7), i);
        }
        due("a 25th", x.rest(0, 6), FULL);
        due("a 25th, bad", x.rest(0, 7), BAD);
    }

    private static void dot() {
        promise = "5 dot";
        MensuralRows x = new MensuralRows();
        due("without a voice", x.dot(0), BAD);
        x.voice(0);
        due("behind none", x.dot(0), BAD);
        x.note(0, 4, 0, true);
        due("behind a note", x.dot(0), 1);
        due("behind a dot", x.dot(0), BAD);
        x.rest(0, 4);
        due("behind a rest", x.dot(0), 3);
        for (int i = 4; i < 24; i++) {
            x.note(0, 4, 0, false);
        }
        due("no room", x.dot(0), FULL);
        x.back(0);
        due("the last room", x.dot(0), 23);
        due("behind a dot, no room", x.dot(0), BAD);
    }

    private static void kinds(int shape, String want, int... pitches) {
        MensuralRows x = new MensuralRows();
        x.voice(5);
        x.rest(0, 0);
        due("ligature " + shape, x.ligature(0, shape, pitches.length, bytes(pitches)), 1);
        for (int i = 0; i < pitches.length; i++) {
            due("shape " + shape + " kind " + i, x.symbol(0, i + 1, 1), want.charAt(i) - '0');
            due("shape " + shape + " pitch " + i, x.symbol(0, i + 1, 2), pitches[i]);
            due("shape " + shape + " plain " + i, x.symbol(0, i + 1, 3), 0);
        }
        due("symbols", x.told(0, 0), pitches.length + 1);
    }

    private static void ligature() {
        promise = "6 ligature";
        kinds(0, "11", 1, 0);
        kinds(0, "22", 0, 1);
        kinds(1, "21", 1, 0);
        kinds(1, "12", 0, 1);
        kinds(2, "33", 1, 0);
        kinds(2, "33", 0, 1);
        kinds(4, "12", 1, 0);
        kinds(5, "22", 1, 0);
        kinds(6, "33", 1, 0);
        kinds(8, "11", 1, 0);
        kinds(8, "21", 0, 1);
        kinds(9, "21", 1, 0);
        kinds(10, "33", 0, 1);
        kinds(12, "11", 1, 0);
        kinds(14, "33", 1, 0);
        kinds(2, "331", 0, 3, 1);
        kinds(2, "332", 0, 3, 4);
        kinds(10, "331", 0, 3, 4);
        kinds(6, "332", 0, 3, 1);
        kinds(0, "2222", -40, 40, 3, 7);
        kinds(0, "1221", 40, -40, 3, -7);
        kinds(9, "22222221", 8, 7, 6, 5, 4, 3, 2, 1);
        kinds(4, "12222222", 8, 7, 6, 5, 4, 3, 2, 1);
        MensuralRows x = new MensuralRows();
        due("without a voice", x.ligature(0, 0, 2, bytes(1, 0)), BAD);
        x.voice(0);
        int[][] bad = {{-1, 2}, {16, 2}, {0, 1}, {0, 9}, {0, LEAST}, {MOST, 2}, {3, 1}};
        for (int[] b : bad) {
            due("shape " + b[0] + ", n " + b[1], x.ligature(0, b[0], b[1], bytes(1, 0, 1, 0, 1, 0, 1, 0)), BAD);
        }
        due("pitch 41", x.ligature(0, 0, 2, bytes(0, 41)), BAD);
        due("pitch -41", x.ligature(0, 0, 2, bytes(-41, 0)), BAD);
        due("a pitch before a shape", x.ligature(0, 3, 2, bytes(-41, 0)), BAD);
        due("pitch 41 behind", x.ligature(0, 0, 2, bytes(0, 1, 41)), 0);
        due("1 and 2", x.ligature(0, 3, 2, bytes(1, 0)), SHAPE);
        due("4 rising", x.ligature(0, 4, 2, bytes(0, 1)), SHAPE);
        due("4 rising at last", x.ligature(0, 4, 3, bytes(5, 0, 1)), SHAPE);
        due("two alike", x.ligature(0, 0, 3, bytes(0, 1, 1)), SHAPE);
        due("alike behind", x.ligature(0, 0, 2, bytes(0, 1, 1)), 2);
        for (int i = 4; i < 20; i++) {
            x.rest(0, 0);
        }
        due("five for four", x.ligature(0, 0, 5, bytes(0, 1, 0, 1, 0)), FULL);
        due("five for four, alike", x.ligature(0, 0, 5, bytes(0, 1, 0, 1, 1)), SHAPE);
        due("nothing changed", x.told(0, 0), 20);
        due("four for four", x.ligature(0, 0, 4, bytes(0, 1, 0, 1)), 20);
    }

    private static void proportion() {
        promise = "7 proportion";
        MensuralRows x = new MensuralRows();
        due("without a voice", x.proportion(0, 1, 1), BAD);
        x.voice(4);
        int[][] bad = {{0, 1}, {10, 1}, {1, 0}, {1, 10}, {LEAST, 1}, {1, MOST}};
        for (int[] b : bad) {
            due("proportion " + b[0] + " " + b[1], x.proportion(0, b[0], b[1]), BAD);
        }
        x.note(0, 2, 0, false);
        due("3 for 2", x.proportion(0, 3, 2), 1);
        x.note(0, 2, 0, false);
        due("4 for 6", x.proportion(0, 4, 6), 1);
        due("up", x.told(0, 3), 1);
        due("down", x.told(0, 4), 1);
        x.proportion(0, 7, 5);
        x.note(0, 2, 0, false);
        long[][] times = {{0, 1}, {72, 1}, {120, 1}, {1200, 7}};
        for (int i = 0; i < 4; i++) {
            due("time " + i, x.time(0, i, 0), times[i][0]);
            due("time by " + i, x.time(0, i, 1), times[i][1]);
        }
        MensuralRows y = desk(0, "");
        for (int i = 0; i < 3; i++) {
            due("nine", y.proportion(0, 9, 1), 1);
        }
        due("too great", y.proportion(0, 2, 1), FULL);
        due("up stays", y.told(0, 3), 729);
        due("in lowest terms", y.proportion(0, 8, 6), 1);
        due("up", y.told(0, 3), 972);
        due("down", y.told(0, 4), 1);
        MensuralRows z = desk(0, "");
        z.proportion(0, 1, 8);
        z.proportion(0, 1, 5);
        z.proportion(0, 1, 5);
        due("just 1000", z.proportion(0, 1, 5), 1);
        due("down", z.told(0, 4), 1000);
        due("above", z.proportion(0, 1, 2), FULL);
        due("turned", z.proportion(0, 9, 9), 1);
    }

    private static void back() {
        promise = "8 back";
        MensuralRows x = new MensuralRows();
        due("without a voice", x.back(0), BAD);
        x.voice(4);
        due("none", x.back(0), NONE);
        put(x, 0, "n2 . r3");
        x.proportion(0, 3, 2);
        due("one goes", x.back(0), 2);
        due("up stays", x.told(0, 3), 3);
        due("a dot stands there", x.dot(0), BAD);
        due("the dot goes", x.back(0), 1);
        due("a dot again", x.dot(0), 1);
        x.back(0);
        due("the last goes", x.back(0), 0);
        due("none", x.back(0), NONE);
        due("voice 1", x.back(1), BAD);
    }

    private static void told() {
        promise = "9 told";
        int[][] signs = {{0, 4, 12}, {1, 0, 288}, {2, 1, 144}, {4, 2, 72}, {8, 3, 36}, {12, 2, 108},
            {15, 0, 972}, {10, 1, 216}, {6, 1, 216}, {9, 0, 432}};
        for (int[] s : signs) {
            MensuralRows x = desk(s[0], "");
            due("sign", x.told(0, 1), s[0]);
            due("ground of " + s[0], x.told(0, 2), s[1]);
            due("full of " + s[0], x.told(0, 6), s[2]);
        }
        MensuralRows x = desk(4, "n2 . n2");
        due("symbols", x.told(0, 0), 3);
        due("what -1", x.told(0, -1), BAD);
        due("what 7", x.told(0, 7), BAD);
        due("voice 1", x.told(1, 0), BAD);
        due("picked", x.told(0, 5), 0);
        x.pick(0, 1);
        due("picked", x.told(0, 5), 1);
    }

    private static void symbol() {
        promise = "10 symbol";
        MensuralRows x = new MensuralRows();
        x.voice(0);
        x.note(0, 3, -7, true);
        x.dot(0);
        x.rest(0, 5);
        x.note(0, 6, 9, false);
        int[][] want = {{1, 3, -7, 1}, {3, NONE, NONE, NONE}, {2, 5, NONE, NONE}, {1, 6, 9, 0}};
        for (int i = 0; i < 4; i++) {
            for (int what = 0; what < 4; what++) {
                due("symbol " + i + " " + what, x.symbol(0, i, what), want[i][what]);
            }
        }
        due("i -1", x.symbol(0, -1, 0), BAD);
        due("i 4", x.symbol(0, 4, 0), BAD);
        due("what -1", x.symbol(0, 0, -1), BAD);
        due("what 4", x.symbol(0, 1, 4), BAD);
        due("voice 1", x.symbol(1, 0, 0), BAD);
    }

    /** A row's readings: each with its strain, its forms and its values. */
    private static void read(int sign, String row, int[][]... readings) {
        promise = "11, 13, 14, 15 of sign " + sign + ": " + row;
        MensuralRows x = desk(sign, row);
        due("readings", x.readings(0), readings.length);
        for (int r = 0; r < readings.length; r++) {
            int[][] one = readings[r];
            due("strained " + r, x.strained(0, r), one[0][0]);
            for (int i = 0; i < one[1].length; i++) {
                due("form " + r + " " + i, x.form(0, r, i), one[1][i]);
            }
            due("form behind", x.form(0, r, one[1].length), NONE);
            due("symbols", x.told(0, 0), one[2].length);
            for (int i = 0; i < one[2].length; i++) {
                due("value " + r + " " + i, x.value(0, r, i), one[2][i]);
            }
            due("value behind", x.value(0, r, one[2].length), NONE);
        }
        due("strained behind", x.strained(0, readings.length), NONE);
        due("form of none", x.form(0, readings.length, 0), NONE);
        due("value of none", x.value(0, readings.length, 0), NONE);
        if (readings.length > 0) {
            due("stuck", x.stuck(0), NONE);
        }
    }

    private static int[][] as(int strain, int[] forms, int... values) {
        return new int[][] {{strain}, forms, values};
    }

    private static int[] forms(int... all) {
        return all;
    }

    private static void readings() {
        read(4, "n2 r2", as(0, forms(1, 2), 72, 72));
        read(4, "n2 .", as(0, forms(3), 72, 0), as(1, forms(1, 12), 72, 0));
        read(4, "r2 .", as(1, forms(2, 12), 72, 0));
        read(4, "n3 r3 n4 n4", as(0, forms(6, 1, 2, 4, 1, 1), 24, 24, 12, 12));
        read(4, "n3 n3 n4 . n5", as(0, forms(6, 1, 1, 5, 13, 1), 24, 24, 18, 0, 6));
        read(4, "n2 r3", as(1, forms(7, 2), 48, 24));
        read(4, "n2 n3 n3 n2", as(2, forms(1, 8, 1, 1), 72, 24, 48, 72),
                as(4, forms(7, 1, 9, 1), 48, 24, 24, 48));
        read(4, "n3 n3 n1", as(2, forms(8, 1, 1), 24, 48, 144));
        read(4, "n3 n3 r0", as(2, forms(8, 1, 2), 24, 48, 288));
        read(4, "n3 n3 c2 c2 c2", as(2, forms(8, 1, 15, 16, 16, 16), 24, 48, 48, 48, 48));
        read(4, "n3 n3 . n2", as(3, forms(8, 1, 12, 1), 24, 48, 0, 72));
        read(4, "n3 n3");
        read(4, "n3 r3 n2");
        read(4, "n3 n2", as(3, forms(9, 1), 24, 48));
        read(4, "n3 n2 n1", as(3, forms(9, 1, 1), 24, 48, 144));
        read(4, "n3 n2 n2");
        read(4, "n3 n2 . r2");
        read(4, "n3 n2 . n3 n2", as(7, forms(9, 1, 12, 9, 1), 24, 48, 0, 24, 48));
        read(4, "n3 c3 c3 c3", as(0, forms(10, 1, 15, 16, 16, 16), 24, 16, 16, 16));
        read(4, "c3 c4 c4 c3 n3 .", as(1, forms(11, 15, 16, 17, 16, 1, 12), 16, 8, 8, 16, 24, 0));
        read(4, "n1 . r1", as(0, forms(18, 2), 216, 0, 144));
        read(4, "r1 .");
        read(4, "c1 c2 c2 c1", as(0, forms(15, 16, 17, 16), 96, 48, 48, 96));
        read(4, "c2 .");
        read(0, "", as(0, forms()));
        read(0, "n4 . n5", as(0, forms(13, 1), 18, 0, 6));
        read(0, "n5 n4 .", as(0, forms(14, 1), 6, 18, 0));
        read(0, "c4 c4 c4 c4 c4 c4", as(0, forms(15, 16, 16, 16, 15, 16, 16, 16), 8, 8, 8, 8, 8, 8),
                as(0, forms(15, 17, 17, 17), 8, 8, 8, 8, 8, 8));
        read(0, "n3 . n6 n6 n5", as(0, forms(18, 4, 4, 1, 1, 1), 36, 0, 3, 3, 6));
        read(0, "c6 c6 c6 n5", as(0, forms(4, 5, 15, 16, 16, 16, 1), 2, 2, 2, 6));
        read(0, "n6 . n5");
        // Each of both units that end there can be the one that the dot divides.
        read(12, "n3 n3 n3 .", as(0, forms(6, 1, 1, 3), 36, 36, 36, 0),
                as(1, forms(6, 1, 1, 1, 12), 36, 36, 36, 0), as(1, forms(6, 1, 1, 1, 12), 36, 36, 36, 0));
        promise = "11 readings";
        due("without a voice", new MensuralRows().readings(0), BAD);
        due("just 1000", desk(6, "n1 n2 . n1 r0 n1 n2 . n1 r0 n1 n2 . n1 r0 n1 n2 . n1 . r0").readings(0), 1000);
        due("1001", desk(6, "n1 n2 n1 n2 . n1 r0 n1 n2 . n1 n2 n1 . r0 n1 n2 . n2 n3 n2 . r0").readings(0), MANY);
        due("512", desk(8, "n3 . n3 . n3 . n3 . n3 . n3 . n3 . n3 . n3 .").readings(0), 512);
        due("1024", many().readings(0), MANY);
    }

    private static void stuck() {
        promise = "12 stuck";
        due("voice -1", new MensuralRows().stuck(-1), BAD);
        due("no symbols", desk(4, "").stuck(0), NONE);
        due("a reading", desk(4, "n2 n2 n3").stuck(0), NONE);
        due("many", many().stuck(0), NONE);
        due("behind two", desk(4, "n2 n3 n3").stuck(0), 2);
        due("at once", desk(4, "n3 n2 n2").stuck(0), 0);
        due("what comes next counts", desk(4, "n3 n3 n2 n4").stuck(0), 3);
        due("behind many", desk(8, "n3 . n3 . n3 . n3 . n3 . n3 . n3 . n3 . n3 . n3 . n4 n4").stuck(0), 20);
    }

    private static void wrongReadings() {
        promise = "13 to 16, wrong inputs";
        MensuralRows x = desk(4, "n2 . n2");
        for (int bad : new int[] {-1, 1, LEAST, MOST}) {
            due("strained", x.strained(bad, 0), BAD);
            due("form", x.form(bad, 0, 0), BAD);
            due("value", x.value(bad, 0, 0), BAD);
            due("pick", x.pick(bad, 0), BAD);
        }
        for (int none : new int[] {-1, 2, LEAST, MOST}) {
            due("strained", x.strained(0, none), NONE);
            due("form", x.form(0, none, 0), NONE);
            due("form i", x.form(0, 0, none < 3 && none > 0 ? 3 : none), NONE);
            due("value", x.value(0, none, 0), NONE);
            due("value i", x.value(0, 0, none == 2 ? 3 : none), NONE);
            due("pick", x.pick(0, none), NONE);
        }
        MensuralRows y = many();
        due("strained", y.strained(0, -1), MANY);
        due("form", y.form(0, 0, -1), MANY);
        due("value", y.value(0, 0, 99), MANY);
        due("pick", y.pick(0, 0), MANY);
        due("strained, bad", y.strained(1, 0), BAD);
    }

    private static void pick() {
        promise = "16 pick";
        MensuralRows x = desk(4, "n2 n3 n3 n2");
        due("at first", x.pick(0, 1), 0);
        due("then", x.pick(0, 1), 1);
        due("time in it", x.time(0, 1, 0), 48);
        due("refused", x.pick(0, 2), NONE);
        due("back", x.pick(0, 0), 1);
        due("time in it", x.time(0, 1, 0), 72);
        due("no reading", desk(4, "n3").pick(0, 0), NONE);
        due("no symbols", desk(4, "").pick(0, 0), 0);
    }

    private static void time() {
        promise = "17 time";
        MensuralRows x = desk(4, "n2 . r2 n2");
        long[] begins = {0, 72, 72, 144, 216};
        for (int i = 0; i < 5; i++) {
            due("time " + i, x.time(0, i, 0), begins[i]);
            due("time by " + i, x.time(0, i, 1), 1);
        }
        due("i 5", x.time(0, 5, 0), NONE);
        due("i -1", x.time(0, -1, 0), NONE);
        due("part 2", x.time(0, 0, 2), BAD);
        due("part -1, no symbol", x.time(0, 9, -1), BAD);
        due("voice 1", x.time(1, 0, 0), BAD);
        due("no reading", desk(4, "n3").time(0, 0, 0), NONE);
        due("no symbols", desk(4, "").time(0, 0, 0), 0);
        due("no symbols, by", desk(4, "").time(0, 0, 1), 1);
        due("many", many().time(0, 99, 0), MANY);
        due("many, bad", many().time(0, 0, 2), BAD);
    }

    private static void at() {
        promise = "18 at";
        MensuralRows x = desk(4, "n2 . r2");
        x.proportion(0, 7, 1);
        x.note(0, 2, 0, false);
        due("0", x.at(0, 0, 1), 0);
        due("before its end", x.at(0, 719, 10), 0);
        due("the rest begins", x.at(0, 72, 1), 2);
        due("the note begins", x.at(0, 288, 2), 3);
        due("before the end", x.at(0, 1079, 7), 3);
        due("the end", x.at(0, 1080, 7), NONE);
        due("far", x.at(0, MOST, 1), NONE);
        due("near", x.at(0, 1, MOST), 0);
        due("both great", x.at(0, MOST, MOST - 1), 0);
        due("up -1", x.at(0, -1, 1), BAD);
        due("down 0", x.at(0, 0, 0), BAD);
        due("down -1", x.at(0, 1, -1), BAD);
        due("voice 1", x.at(1, 0, 1), BAD);
        due("no symbols", desk(4, "").at(0, 0, 1), NONE);
        due("no reading", desk(4, "n3").at(0, 0, 1), NONE);
        due("many", many().at(0, 0, 1), MANY);
    }

    private static void together() {
        promise = "19 together";
        MensuralRows x = desk(4, "n2 n2");
        due("one", x.together(), 1);
        x.voice(0);
        due("one of none", x.together(), 0);
        put(x, 1, "n2 n2 n2");
        due("both", x.together(), 1);
        x.proportion(1, 3, 2);
        x.note(1, 2, 0, false);
        due("too long", x.together(), 0);
        x.back(1);
        x.note(1, 6, 0, false);
        due("unread", x.together(), 0);
        x.voice(8);
        put(x, 2, "n3 . n3 . n3 . n3 . n3 . n3 . n3 . n3 . n3 . n3 .");
        due("many behind unread", x.together(), MANY);
        MensuralRows y = desk(0, "");
        y.voice(15);
        due("both of none", y.together(), 1);
    }

    private static void meet() {
        promise = "20 meet";
        MensuralRows x = new MensuralRows();
        x.voice(0);
        x.voice(0);
        int[] high = {0, 5, 14, -3, 7}, low = {0, 4, 0, 1, 12};
        for (int i = 0; i < 5; i++) {
            x.note(0, 3, high[i], false);
            x.note(1, 3, low[i], false);
        }
        due("all", x.meet(0, 1, 0), 5);
        due("sweet: 0, 14, 4, 5", x.meet(0, 1, 1), 4);
        due("turned", x.meet(1, 0, 1), 4);
        due("itself", x.meet(0, 0, 1), 5);
        x.rest(0, 3);
        x.note(1, 3, 0, false);
        x.note(0, 2, 0, false);
        x.note(1, 3, 2, false);
        x.note(1, 3, 0, false);
        due("rests not, and one later", x.meet(0, 1, 0), 6);
        due("sweet", x.meet(0, 1, 1), 5);
        due("what 2", x.meet(0, 1, 2), BAD);
        due("what -1", x.meet(0, 1, -1), BAD);
        due("voice 2", x.meet(0, 2, 0), BAD);
        due("voice -1", x.meet(-1, 0, 0), BAD);
        x.voice(4);
        x.note(2, 3, 0, false);
        due("no reading", x.meet(2, 0, 0), NONE);
        due("no reading", x.meet(0, 2, 0), NONE);
        x.voice(8);
        put(x, 3, "n3 . n3 . n3 . n3 . n3 . n3 . n3 . n3 . n3 . n3 .");
        due("many before none", x.meet(2, 3, 0), MANY);
        due("many", x.meet(3, 0, 1), MANY);
        due("bad before many", x.meet(3, 0, 2), BAD);
    }

    private static void follows(MensuralRows x, int f, long[]... want) {
        for (int i = 0; i < want.length; i++) {
            for (int what = 0; what < 5; what++) {
                due("follower " + f + " " + i + " " + what, x.follower(f, i, what), want[i][what]);
            }
        }
        due("follower behind", x.follower(f, want.length, 0), NONE);
    }

    private static void canon() {
        promise = "21 canon, 22 follower";
        MensuralRows x = new MensuralRows();
        x.voice(4);
        x.rest(0, 2);
        x.note(0, 2, 5, false);
        x.dot(0);
        x.proportion(0, 5, 1);
        x.note(0, 2, 7, false);
        due("plain", x.canon(0, 0, 10, -2), 0);
        follows(x, 0, new long[] {1000, 10, 1, 72, 1}, new long[] {3, 82, 1, 72, 1}, new long[] {5, 154, 1, 72, 5});
        due("backwards, turned", x.canon(0, 3, 0, 0), 1);
        follows(x, 1, new long[] {7, 0, 1, 72, 5}, new long[] {9, 72, 5, 72, 1}, new long[] {1000, 432, 5, 72, 1});
        due("turned, twice as long", x.canon(0, 6, 100000, 40), 2);
        follows(x, 2, new long[] {1000, 100000, 1, 144, 1}, new long[] {45, 100144, 1, 144, 1},
                new long[] {43, 100288, 1, 144, 5});
        int[][] bad = {{1, 0, 0, 0}, {-1, 0, 0, 0}, {0, -1, 0, 0}, {0, 8, 0, 0}, {0, 0, -1, 0}, {0, 0, 100001, 0},
            {0, 0, 0, -41}, {0, 0, 0, 41}};
        for (int[] b : bad) {
            due("canon", x.canon(b[0], b[1], b[2], b[3]), BAD);
        }
        x.note(0, 2, 1, false);
        x.back(0);
        x.back(0);
        follows(x, 0, new long[] {1000, 10, 1, 72, 1}, new long[] {3, 82, 1, 72, 1}, new long[] {5, 154, 1, 72, 5});
        x.voice(4);
        due("of no symbols", x.canon(1, 7, 0, 0), 3);
        due("none in it", x.follower(3, 0, 0), NONE);
        x.note(1, 3, 0, false);
        due("no reading", x.canon(1, 0, 0, 0), NONE);
        x.canon(0, 0, 0, 0);
        due("the sixth", x.canon(0, 0, 0, 0), 5);
        due("a seventh", x.canon(0, 0, 0, 0), FULL);
        due("none before full", x.canon(1, 0, 0, 0), NONE);
        due("bad before full", x.canon(0, 8, 0, 0), BAD);
        due("count(1)", x.count(1), 6);
        due("i -1", x.follower(0, -1, 0), NONE);
        due("i 24", x.follower(0, 24, 0), NONE);
        due("f -1", x.follower(-1, 0, 0), BAD);
        due("f 6", x.follower(6, 0, 0), BAD);
        due("what -1", x.follower(0, 0, -1), BAD);
        due("what 5, none such", x.follower(0, 99, 5), BAD);
        due("many", many().canon(0, 0, 0, 0), MANY);
        pickedThen();
    }

    private static void pickedThen() {
        MensuralRows x = desk(4, "n2 n3 n3 n2");
        x.pick(0, 1);
        x.canon(0, 0, 0, 0);
        x.pick(0, 0);
        due("as it was picked then", x.follower(0, 0, 3), 48);
        due("as it is picked now", x.value(0, x.told(0, 5), 0), 72);
    }

    private static void wrote(int sign, String want, int... values) {
        MensuralRows x = new MensuralRows();
        int b = values.length > 1 ? values[1] : -5, c = values.length > 2 ? values[2] : -5;
        String name = "write(" + sign + ", " + values.length + ", " + values[0] + ", " + b + ", " + c + ")";
        due(name, x.write(sign, values.length, values[0], b, c), want.isEmpty() ? NONE : want.length());
        for (int i = 0; i < want.length(); i++) {
            due(name + " " + i, x.written(i), want.charAt(i) - '0');
        }
        due(name + " behind", x.written(want.length()), NONE);
    }

    private static void write() {
        promise = "23 write, 24 written";
        wrote(4, "2", 72);
        wrote(4, "17", 216);
        wrote(4, "", 48);
        wrote(4, "23", 48, 24);
        wrote(4, "32", 24, 48);
        wrote(4, "332", 24, 48, 72);
        wrote(8, "432", 12, 24, 72);
        wrote(8, "333", 36, 36, 36);
        wrote(8, "3743", 36, 12, 24);
        wrote(4, "333", 24, 24, 24);
        wrote(0, "475", 18, 6);
        wrote(0, "547", 6, 18);
        wrote(0, "", 18);
        wrote(0, "", MOST, MOST, MOST);
        MensuralRows x = new MensuralRows();
        x.write(4, 2, 48, 24, 0);
        due("none", x.write(4, 1, 5, 0, 0), NONE);
        due("bad", x.write(16, 1, 72, 0, 0), BAD);
        due("what was written stays", x.written(0) * 10 + x.written(1), 23);
        due("n 0", x.write(4, 0, 1, 1, 1), BAD);
        due("n 4", x.write(4, 4, 1, 1, 1), BAD);
        due("sign -1", x.write(-1, 1, 72, 0, 0), BAD);
        due("a 0", x.write(4, 1, 0, 1, 1), BAD);
        due("b 0", x.write(4, 2, 48, 0, 1), BAD);
        due("c 0", x.write(4, 3, 24, 24, 0), BAD);
        due("written(-1)", x.written(-1), NONE);
        due("written(2)", x.written(2), NONE);
        due("written(MOST)", x.written(MOST), NONE);
        due("no voices", x.count(0), 0);
    }

    private static void count() {
        promise = "25 count";
        MensuralRows x = desk(4, "n2 . r2");
        x.voice(0);
        put(x, 1, "n4 n4");
        x.canon(0, 0, 0, 0);
        due("voices", x.count(0), 2);
        due("followers", x.count(1), 1);
        due("symbols", x.count(2), 5);
        x.back(0);
        due("symbols", x.count(2), 4);
        due("what -1", x.count(-1), BAD);
        due("what 3", x.count(3), BAD);
    }

    public static void main(String[] args) {
        newObject();
        voice();
        note();
        rest();
        dot();
        ligature();
        proportion();
        back();
        told();
        symbol();
        readings();
        stuck();
        wrongReadings();
        pick();
        time();
        at();
        together();
        meet();
        canon();
        write();
        count();
        System.out.println(compared + " answers compared, " + wrong + " wrong");
        if (wrong != 0) {
            System.exit(1);
        }
    }
}
