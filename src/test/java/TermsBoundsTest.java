/**
 * "Terms", parts 1 to 5: each sentence of the document that names a bound or an edge, from both
 * sides. The answers were worked out by hand.
 */
public final class TermsBoundsTest {
    private static final int NONE = Sheet.NONE, BAD = Sheet.BAD, FULL = Sheet.FULL, MANY = Sheet.MANY;
    private static final int SHAPE = Sheet.SHAPE;
    private static final String[] WITH_MANY = {"readings", "strained", "form", "value", "pick", "time", "at",
        "together", "meet", "canon"};

    private static void says(String words) {
        Sheet.says(words);
    }

    private static void due(String call, long got, long want) {
        Sheet.due(call, got, want);
    }

    private static void reads(int sign, String row, String... want) {
        Sheet.reads(sign, row, want);
    }

    private static void sticks(int sign, String row, int where) {
        Sheet.sticks(sign, row, where);
    }

    // ---- part 1

    private static boolean isPerfect(int sign, int kind) {
        return kind < 4 && (sign & 1 << kind) != 0;
    }

    private static int ground(int sign) {
        return sign == 0 ? 4 : Integer.numberOfTrailingZeros(sign);
    }

    private static void kinds() {
        says("KINDS of notes are 0 (the greatest) to 6.");
        MensuralRows x = Sheet.desk(0, "");
        for (int kind = 0; kind <= 6; kind++) {
            due("note of kind " + kind, x.note(0, kind, 0, false), 2 * kind);
            due("rest of kind " + kind, x.rest(0, kind), 2 * kind + 1);
            due("its kind", x.symbol(0, 2 * kind, 1), kind);
            due("the rest's kind", x.symbol(0, 2 * kind + 1, 1), kind);
        }
        for (int kind : new int[] {-1, 7, 8, Sheet.LEAST, Sheet.MOST}) {
            due("note of kind " + kind, x.note(0, kind, 0, false), BAD);
            due("rest of kind " + kind, x.rest(0, kind), BAD);
        }
        due("symbols", x.told(0, 0), 14);
        int[] values = {192, 96, 48, 24, 12};
        for (int kind = 0; kind < 5; kind++) {
            due("value of kind " + kind, Sheet.desk(0, "n" + kind).value(0, 0, 0), values[kind]);
        }
    }

    /** Notes that fill one of the ground, the last two of the kind asked for. */
    private static String rowDownTo(int sign, int kind) {
        StringBuilder row = new StringBuilder();
        for (int k = ground(sign) + 1; k <= kind; k++) {
            row.append(Sheet.times(isPerfect(sign, k - 1) ? 2 : 1, "n" + k)).append(" ");
        }
        return row + "n" + kind;
    }

    private static void signs() {
        says("A SIGN, 0 .. 15, says for KINDS 0 .. 3 whether they are PERFECT (bit k, for KIND k, is 1) or not; "
            + "4 and 5 never are.");
        for (int sign : new int[] {-1, 16, 17, -16, Sheet.LEAST, Sheet.MOST}) {
            MensuralRows x = new MensuralRows();
            due("voice(" + sign + ")", x.voice(sign), BAD);
            due("voices", x.count(0), 0);
        }
        for (int sign = 0; sign <= 15; sign++) {
            for (int k = ground(sign); k <= 5; k++) {
                // Rests are never longer or shorter, so that just three or two of the smaller kind fit.
                String row = rowDownTo(sign, k + 1).replace("n", "r"), more = row + " r" + (k + 1);
                due("sign " + sign + ": " + row, Sheet.desk(sign, row).readings(0), 1);
                due("sign " + sign + ": " + more, Sheet.desk(sign, more).readings(0), 0);
            }
        }
        says("FULL(6) is 3 TICKS; FULL(k) is 3 FULL(k + 1), if k is PERFECT, else 2 FULL(k + 1).");
        for (int sign = 0; sign <= 15; sign++) {
            int full = 3;
            for (int k = 6; k >= 0; k--) {
                full *= k == 6 ? 1 : isPerfect(sign, k) ? 3 : 2;
                String row = k <= ground(sign) ? "n" + k : rowDownTo(sign, k);
                MensuralRows x = Sheet.desk(sign, row);
                due("sign " + sign + ": FULL(" + k + ")", x.value(0, 0, x.told(0, 0) - 1), full);
            }
        }
        due("the greatest", Sheet.desk(15, "n0").value(0, 0, 0), 972);
        due("its rest", Sheet.desk(15, "r0").value(0, 0, 0), 972);
        says("THE GROUND is the least KIND that is PERFECT, or 4, if none is.");
        int[] grounds = {4, 0, 1, 0, 2, 0, 1, 0, 3, 0, 1, 0, 2, 0, 1, 0};
        int[] fulls = {12, 288, 144, 432, 72, 432, 216, 648, 36, 432, 216, 648, 108, 648, 324, 972};
        for (int sign = 0; sign <= 15; sign++) {
            MensuralRows x = Sheet.desk(sign, "");
            due("ground of " + sign, x.told(0, 2), grounds[sign]);
            due("full of the ground of " + sign, x.told(0, 6), fulls[sign]);
        }
    }

    private static void voices() {
        says("VOICES, 6 at most, each with a SIGN and a ROW of SYMBOLS, 24 at most, numbered from 0 on");
        MensuralRows x = new MensuralRows();
        for (int v = 0; v < 6; v++) {
            due("before voice " + v, x.note(v, 0, 0, false), BAD);
            due("voice " + v, x.voice(15 - v), v);
        }
        due("a seventh", x.voice(0), FULL);
        due("voices", x.count(0), 6);
        due("note in a seventh", x.note(6, 0, 0, false), BAD);
        for (int i = 0; i < 24; i++) {
            for (int v = 0; v < 6; v++) {
                due("note " + i + " of voice " + v, x.note(v, (i + v) % 7, i - v, i == v), i);
            }
        }
        for (int v = 0; v < 6; v++) {
            due("sign of voice " + v, x.told(v, 1), 15 - v);
            due("a 25th of voice " + v, x.note(v, 0, 0, false), FULL);
            due("symbols of voice " + v, x.told(v, 0), 24);
            for (int i = 0; i < 24; i++) {
                due("kind", x.symbol(v, i, 1), (i + v) % 7);
                due("pitch", x.symbol(v, i, 2), i - v);
                due("coloured", x.symbol(v, i, 3), i == v ? 1 : 0);
            }
            due("symbol -1", x.symbol(v, -1, 0), BAD);
            due("symbol 24", x.symbol(v, 24, 0), BAD);
        }
        due("symbols of all", x.count(2), 144);
    }

    private static void symbols() {
        says("NOTES (a KIND, a pitch -40 .. 40, plain or COLOURED), RESTS (a KIND), DOTS (behind a NOTE or REST alone).");
        for (int pitch : new int[] {-40, -39, -1, 0, 39, 40}) {
            MensuralRows x = Sheet.desk(0, "");
            due("pitch " + pitch, x.note(0, 2, pitch, pitch < 0), 0);
            due("it is", x.symbol(0, 0, 2), pitch);
            due("coloured", x.symbol(0, 0, 3), pitch < 0 ? 1 : 0);
        }
        MensuralRows x = Sheet.desk(0, "");
        for (int pitch : new int[] {-41, 41, -42, 42, -128, 128, 256, Sheet.LEAST, Sheet.MOST}) {
            due("pitch " + pitch, x.note(0, 2, pitch, false), BAD);
        }
        due("a dot behind none", x.dot(0), BAD);
        due("symbols", x.told(0, 0), 0);
        Sheet.put(x, 0, "n2 . c2 . r2 .");
        due("a dot behind a dot", x.dot(0), BAD);
        due("symbols", x.told(0, 0), 6);
        says("SMALLER is a KIND with a greater number.");
        due("kind 3 is smaller than kind 2", Sheet.desk(0, "n3").value(0, 0, 0) < Sheet.desk(0, "n2").value(0, 0, 0)
            ? 1 : 0, 1);
    }

    // ---- part 2

    private static void plainForms() {
        says("a plain NOTE (1) or REST (2) of KIND k: FULL(k), each; the NOTE, if k is PERFECT, perhaps with a DOT (3), "
            + "which belongs to it.");
        reads(4, "n2", "0|1|72");
        reads(4, "r2", "0|2|72");
        sticks(4, "c2", 0);
        reads(4, "n2 .", "0|3|72 0", "1|1 12|72 0");
        reads(4, "r2 .", "1|2 12|72 0");
        sticks(4, "c2 .", 0);
        reads(0, "n4 r4", "0|1 2|12 12");
        sticks(0, "n4 .", 1);
        sticks(0, "r4 .", 1);
        sticks(4, "n3 . n3 n3", 0);
        says("if k is not PERFECT (and below 6): two UNITS of KIND k + 1 (4); or a PAIR of KIND k + 1 (5).");
        reads(0, "n5 n5", "0|4 1 1|6 6");
        reads(0, "r5 n6 r6", "0|4 2 4 1 2|6 3 3");
        sticks(0, "n5", 0);
        sticks(0, "n5 n5 n5", 2);
        sticks(0, "n6 n6", 0);
        reads(0, "n6 n6 n6 n6", "0|4 4 1 1 4 1 1|3 3 3 3");
        reads(0, "n5 . n6", "0|5 13 1|9 0 3");
        reads(0, "n6 n5 .", "0|5 14 1|3 9 0");
        reads(0, "c5 c5 c5", "0|5 15 16 16 16|4 4 4");
        reads(0, "c6 c6 c6 n5", "0|4 5 15 16 16 16 1|2 2 2 6");
        sticks(0, "n6 . n6 n6", 0);
        reads(8, "n4 n4 n5 . n6", "0|6 1 1 5 13 1|12 12 9 0 3");
    }

    private static void perfectForms() {
        says("a plain NOTE of KIND k, which is 2 FULL(k + 1), and a UNIT of KIND k + 1 (7)");
        reads(4, "n2 n3", "1|7 1|48 24");
        reads(4, "n2 r3", "1|7 2|48 24");
        reads(12, "n2 n3", "1|7 1|72 36");
        sticks(4, "r2 n3", 1);
        sticks(4, "c2 n3", 0);
        sticks(0, "n4 n5", 1);
        says("a UNIT of KIND k + 1, and a plain NOTE of it, which is 2 FULL(k + 1), if a NOTE or REST of KIND k, "
            + "or a greater one, comes next (8)");
        sticks(4, "n3 n3", 0);
        reads(4, "n3 n3 n2", "2|8 1 1|24 48 72");
        reads(4, "n3 n3 r2", "2|8 1 2|24 48 72");
        reads(4, "n3 n3 n1", "2|8 1 1|24 48 144");
        reads(4, "n3 n3 r0", "2|8 1 2|24 48 288");
        reads(4, "n3 n3 c2 c2 c2", "2|8 1 15 16 16 16|24 48 48 48 48");
        reads(4, "r3 n3 n2", "2|8 2 1|24 48 72");
        reads(4, "n4 n4 n3 n2", "2|8 4 1 1 1|12 12 48 72");
        sticks(4, "n3 r3 n2", 0);
        sticks(4, "n3 c3 n2", 0);
        sticks(4, "n3 n4 n4 n2", 0);
        // What comes next is smaller: five are no two and three.
        sticks(4, "n3 n3 n3 n3 n3", 3);
        sticks(8, "n4 n4 c4 c4 c4 n4", 0);
        says("a UNIT of KIND k + 1, and a plain NOTE of KIND k, which is 2 FULL(k + 1), if no NOTE or REST of KIND k "
            + "comes next (9)");
        reads(4, "n3 n2", "3|9 1|24 48");
        sticks(4, "n3 n2 n2", 0);
        sticks(4, "n3 n2 r2", 0);
        sticks(4, "n3 n2 c2 c2 c2", 0);
        reads(4, "n3 n2 n1", "3|9 1 1|24 48 144");
        reads(4, "n3 n2 r1", "3|9 1 2|24 48 144");
        reads(4, "n3 n2 n3 n3 n3", "3|9 1 6 1 1 1|24 48 24 24 24");
        sticks(4, "n3 r2", 0);
        sticks(4, "n3 c2", 0);
        says("(COMES NEXT: the next SYMBOL but DOTS.)");
        reads(4, "n3 n3 . n2", "3|8 1 12 1|24 48 0 72");
        sticks(4, "n3 n3 .", 0);
        sticks(4, "n3 n2 . n2", 0);
        sticks(4, "n3 n2 . r2", 0);
        reads(4, "n3 n2 . n1", "4|9 1 12 1|24 48 0 144");
        says("a UNIT of KIND k + 1 and a PAIR of it (10); a PAIR and a UNIT (11).");
        reads(4, "n3 n3 . n4", "0|10 1 13 1|24 36 0 12");
        reads(4, "n3 n4 n3 .", "0|10 1 14 1|24 12 36 0");
        reads(4, "n3 . n4 n3", "0|11 13 1 1|36 0 12 24");
        reads(4, "n4 n3 . n3", "0|11 14 1 1|12 36 0 24");
        sticks(4, "n3 . n4", 0);
        sticks(4, "c3 c3 c3", 0);
    }

    private static void divided() {
        says("if k is PERFECT, a DOT may stand behind the UNIT in each of the FORMS 1, 2 and 6 to 11 (it is DIVIDED; 12, "
            + "told behind all that it is made of).");
        reads(8, "n3 . n3", "0|3 1|36 0 36", "1|1 12 1|36 0 36");
        reads(8, "r3 .", "1|2 12|36 0");
        reads(4, "n3 n3 n3 .", "1|6 1 1 1 12|24 24 24 0");
        reads(4, "n2 n3 .", "2|7 1 12|48 24 0");
        reads(4, "n3 n3 . r1", "3|8 1 12 2|24 48 0 144");
        reads(4, "n3 n2 .", "4|9 1 12|24 48 0");
        reads(4, "n3 c3 c3 c3 .", "1|10 1 15 16 16 16 12|24 16 16 16 0");
        reads(4, "c3 c3 c3 n3 .", "1|11 15 16 16 16 1 12|16 16 16 24 0");
        sticks(0, "n5 n5 .", 2);
        sticks(0, "c5 c5 c5 .", 3);
        sticks(4, "n3 n4 n4 . n3", 0);
        sticks(4, "c2 c2 c2 .", 3);
        // A unit inside can be divided, too.
        reads(12, "n3 . n3 r3", "0|6 3 1 2|36 0 36 36", "1|6 1 12 1 2|36 0 36 36");
    }

    private static void unitsInside() {
        says("A UNIT of KIND k stands for FULL(k). It is one of these FORMS (in brackets the FORM'S number)");
        reads(12, "n3 r3 r3", "0|6 1 2 2|36 36 36");
        reads(12, "n4 n4 n4 r3 r3", "0|6 6 1 1 1 2 2|12 12 12 36 36");
        reads(12, "n3 n4 r3 r3", "1|6 7 1 2 2|24 12 36 36");
        reads(12, "n4 n4 r3 r3", "2|6 8 1 2 2|12 24 36 36");
        reads(12, "r3 r3 n4 n3", "3|6 2 2 9 1|36 36 12 24");
        reads(12, "n4 c4 c4 c4 r3 r3", "0|6 10 1 15 16 16 16 2 2|12 8 8 8 36 36");
        reads(12, "c4 c4 c4 n4 r3 r3", "0|6 11 15 16 16 16 1 2 2|8 8 8 12 36 36");
        reads(12, "r3 r3 c4 c4 c4 n4 .", "1|6 2 2 11 15 16 16 16 1 12|36 36 8 8 8 12 0",
            "1|6 2 2 11 15 16 16 16 1 12|36 36 8 8 8 12 0");
    }

    private static void pairs() {
        says("a plain NOTE of KIND k with a DOT, 3 FULL(k + 1), and a UNIT of KIND k + 1, if k is not PERFECT and below 6 "
            + "(13); that UNIT first, then the NOTE with its DOT (14), likewise");
        reads(0, "n4 . n5", "0|13 1|18 0 6");
        reads(0, "n4 . n6 n6", "0|13 4 1 1|18 0 3 3");
        reads(0, "n5 n4 .", "0|14 1|6 18 0");
        reads(0, "r5 n4 .", "0|14 2|6 18 0");
        sticks(0, "r4 . n5", 1);
        sticks(0, "c4 . n5", 0);
        sticks(0, "n4 n5", 1);
        sticks(0, "n5 n4", 0);
        sticks(4, "n2 . n3", 2);
        reads(4, "n3 n2 .", "4|9 1 12|24 48 0");
        sticks(12, "n3 n3 . n4", 0);
        sticks(0, "n6 . n6", 0);
        reads(0, "n5 . n6 n4", "0|5 13 1 1|9 0 3 12");
        says("or three THIRDS of KIND k (15). A THIRD: a COLOURED NOTE of KIND k (16), two thirds of FULL(k); or, below 6, "
            + "two COLOURED NOTES of KIND k + 1, each of half as much (17).");
        reads(0, "c4 c4 c4", "0|15 16 16 16|8 8 8");
        reads(0, "c4 c5 c5 c4", "0|15 16 17 16|8 4 4 8");
        sticks(0, "c4 c4", 0);
        sticks(0, "c4 c4 c4 c4", 3);
        sticks(0, "c4 c5 c4 c5", 0);
        sticks(0, "n4 c4 c4", 1);
        sticks(0, "c4 n4 c4", 0);
        sticks(0, "c4 c4 n4", 0);
        sticks(0, "n5 c5 c5", 0);
        sticks(0, "c5 n5 c5", 0);
        sticks(0, "c5 c5 n5", 0);
        sticks(0, "c4 r4 c4", 0);
        reads(4, "c3 c3 c2 c2", "0|15 17 16 16|24 24 48 48");
        reads(0, "c6 c6 c6 c6 c6 c6", "0|4 5 15 16 16 16 5 15 16 16 16|2 2 2 2 2 2", "0|5 15 17 17 17|2 2 2 2 2 2");
        reads(15, "c0 c1 c1 c0", "0|15 16 17 16|648 324 324 648");
    }

    private static void items() {
        says("a UNIT of the GROUND; a PAIR of the GROUND; a PAIR of a greater KIND made of THIRDS (15); a plain NOTE or REST "
            + "of a greater KIND than the GROUND (1, 2); such a NOTE with a DOT, half as much more (18).");
        reads(4, "n1 r1 n0 r0", "0|1 2 1 2|144 144 288 288");
        reads(4, "n1 .", "0|18|216 0");
        reads(0, "n3 .", "0|18|36 0");
        sticks(4, "r1 .", 1);
        sticks(4, "c1", 0);
        sticks(4, "n3", 0);
        sticks(4, "r3", 0);
        reads(4, "c1 c1 c1", "0|15 16 16 16|96 96 96");
        reads(4, "c0 c1 c1 c0", "0|15 16 17 16|192 96 96 192");
        // A greater kind has the PAIRS of thirds alone, not 13 and 14.
        reads(4, "n1 . n2", "0|18 1|216 0 72");
        reads(4, "n2 n1 .", "0|1 18|72 216 0");
        // Under the signs whose ground is 0 no kind is greater.
        reads(1, "n0 .", "0|3|288 0", "1|1 12|288 0");
        reads(15, "n0 .", "0|3|972 0", "1|1 12|972 0");
    }

    private static void strain() {
        says("It is STRAINED by 1 for each 7, and each 12; by 2 for each 8; by 3 for each 9.");
        reads(4, "n2 n3 n2 n3 .", "3|7 1 7 1 12|48 24 48 24 0");
        reads(4, "n3 n3 n1 n3 n3 n1", "4|8 1 1 8 1 1|24 48 144 24 48 144");
        reads(4, "n3 n2 n3 n2", "6|9 1 9 1|24 48 24 48");
        reads(4, "r2 . r2 . r2 .", "3|2 12 2 12 2 12|72 0 72 0 72 0");
        reads(4, "n3 n3 n3 n1 . c2 c2 c2 n1", "0|6 1 1 1 18 15 16 16 16 1|24 24 24 216 0 48 48 48 144");
        says("READINGS come in order: those that are less STRAINED first; of as much, by the first FORM that differs, the "
            + "lesser one first.");
        reads(4, "n2 n3 n3 n2", "2|1 8 1 1|72 24 48 72", "4|7 1 9 1|48 24 24 48");
        reads(4, "n2 . n2 .", "0|3 3|72 0 72 0", "1|1 12 3|72 0 72 0", "1|3 1 12|72 0 72 0", "2|1 12 1 12|72 0 72 0");
        reads(0, "c4 c4 c4 c4 c4 c4", "0|15 16 16 16 15 16 16 16|8 8 8 8 8 8", "0|15 17 17 17|8 8 8 8 8 8");
        // Two that are as much strained, with other values: the first one is picked at first.
        String equal = "n2 n3 n4 n4 n3 n4 n4 n3";
        reads(12, equal, "7|7 1 6 8 1 7 1 9 1|72 36 12 24 24 12 12 24", "7|7 7 1 6 9 1 8 1 1|72 24 12 12 24 12 24 36");
        due("the first of both", Sheet.desk(12, equal).time(0, 2, 0), 108);
        says("Its FORMS are told in order, each before what it is made of.");
        reads(12, "r3 r4 r4 r4 r3", "0|6 2 6 2 2 2 2|36 12 12 12 36");
        reads(12, "r3 r4 r4 r4 . r3", "1|6 2 6 2 2 2 12 2|36 12 12 12 0 36");
    }

    private static void empty() {
        says("(A ROW without SYMBOLS has one READING, without FORMS.)");
        for (int sign = 0; sign <= 15; sign++) {
            MensuralRows x = Sheet.desk(sign, "");
            emptyRow(x);
            Sheet.put(x, 0, "n6 c6 r0 .");
            due("no reading", x.readings(0), 0);
            for (int left = 3; left >= 0; left--) {
                due("back", x.back(0), left);
            }
            emptyRow(x);
        }
    }

    private static void emptyRow(MensuralRows x) {
        due("symbols", x.told(0, 0), 0);
        due("readings", x.readings(0), 1);
        due("stuck", x.stuck(0), NONE);
        due("strained", x.strained(0, 0), 0);
        due("strained 1", x.strained(0, 1), NONE);
        due("form", x.form(0, 0, 0), NONE);
        due("value", x.value(0, 0, 0), NONE);
        due("pick", x.pick(0, 0), 0);
        due("pick 1", x.pick(0, 1), NONE);
        due("time", x.time(0, 0, 0), 0);
        due("time, denominator", x.time(0, 0, 1), 1);
        due("time 1", x.time(0, 1, 0), NONE);
        due("at", x.at(0, 0, 1), NONE);
        due("together", x.together(), 1);
        due("meet", x.meet(0, 0, 0), 0);
        due("symbol", x.symbol(0, 0, 0), BAD);
    }

    private static long callWithMany(MensuralRows x, String call) {
        switch (call) {
            case "readings": return x.readings(0);
            case "strained": return x.strained(0, 0);
            case "form": return x.form(0, 0, 0);
            case "value": return x.value(0, 0, 0);
            case "pick": return x.pick(0, 0);
            case "time": return x.time(0, 0, 0);
            case "at": return x.at(0, 0, 1);
            case "together": return x.together();
            case "meet": return x.meet(0, 0, 0);
            default: return x.canon(0, 0, 0, 0);
        }
    }

    private static void isMany(MensuralRows x, boolean many) {
        for (String call : WITH_MANY) {
            due(call + " is MANY", callWithMany(x, call) == MANY ? 1 : 0, many ? 1 : 0);
        }
        due("stuck", x.stuck(0), NONE);
    }

    private static void many() {
        says("If a ROW has more than 1000 it is MANY.");
        String five = "n1 n2 . n1 r0", eight = "n1 n2 . n1 . r0";
        due("five", Sheet.desk(6, five).readings(0), 5);
        due("eight", Sheet.desk(6, eight).readings(0), 8);
        MensuralRows x = Sheet.desk(6, five + " " + five + " " + five + " " + eight);
        due("5 * 5 * 5 * 8", x.readings(0), 1000);
        isMany(x, false);
        due("the last strained", x.strained(0, 999), 3 * 4 + 5);
        due("behind the last", x.strained(0, 1000), NONE);
        due("form behind the last", x.form(0, 1000, 0), NONE);
        due("value behind the last", x.value(0, 1000, 0), NONE);
        due("pick behind the last", x.pick(0, 1000), NONE);
        due("pick the last", x.pick(0, 999), 0);
        due("it is picked", x.told(0, 5), 999);
        due("its form", x.form(0, 999, 1), 9);
        due("its value", x.value(0, 999, 3), 144);
        String seven = "n1 n2 n1 n2 . n1 r0", eleven = "n1 n2 . n1 n2 n1 . r0", thirteen = "n1 n2 . n2 n3 n2 . r0";
        due("seven", Sheet.desk(6, seven).readings(0), 7);
        due("eleven", Sheet.desk(6, eleven).readings(0), 11);
        due("thirteen", Sheet.desk(6, thirteen).readings(0), 13);
        isMany(Sheet.desk(6, seven + " " + eleven + " " + thirteen), true);
        // In these no two readings tell the same forms.
        String three = "n2 n3 n2 .";
        MensuralRows y = Sheet.desk(4, three + " n1 " + three + " n1 " + three + " n1 " + Sheet.times(4, "n2 ."));
        due("3 * 3 * 3 * 2 ^ 4", y.readings(0), 432);
        Sheet.reads(4, three, "1|7 1 3|48 24 72 0", "2|7 1 1 12|48 24 72 0", "4|1 9 1 12|72 24 48 0");
        MensuralRows z = Sheet.desk(8, Sheet.times(9, "n3 ."));
        due("2 ^ 9", z.readings(0), 512);
        isMany(z, false);
        Sheet.put(z, 0, "n3");
        due("still", z.readings(0), 512);
        Sheet.put(z, 0, ".");
        isMany(z, true);
        due("back", z.back(0), 19);
        due("no more", z.readings(0), 512);
        isMany(Sheet.desk(8, Sheet.times(12, "n3 .")), true);
        // A dot that divides each of four units that end there: 4 ^ 6 and more.
        isMany(Sheet.desk(15, Sheet.times(8, "n0 .") + " " + "n0 n1 n2 n3 n4 ."), true);
    }

    private static void stuck() {
        says("A ROW is STUCK at the most SYMBOLS that some row of ITEMS is just the beginning of the ROW for (what comes next "
            + "being looked at in the whole ROW).");
        sticks(4, "n3", 0);
        sticks(4, "n2 n2 n3 n3", 3);
        sticks(4, "r2 r2 n3 n3 n3 n3", 5);
        sticks(4, "n3 n3 n2 n4", 3);
        sticks(4, "n3 n3 n4", 0);
        sticks(4, "n3 n2 n2 n2", 0);
        sticks(4, "n2 . c4", 2);
        sticks(0, Sheet.times(23, "n4") + " n5", 23);
        sticks(0, Sheet.times(23, "n4") + " c4", 23);
        sticks(0, "c6 " + Sheet.times(23, "n4"), 0);
        due("all of it", Sheet.desk(0, Sheet.times(24, "n4")).stuck(0), NONE);
        MensuralRows two = Sheet.desk(0, "c4 c4 c4 n4");
        int other = Sheet.add(two, 0, "c4 c4 r6");
        for (int turn = 0; turn < 2; turn++) {
            due("the row that has a reading", two.stuck(0), NONE);
            due("the row beside it", two.stuck(other), 0);
            due("its readings", two.readings(other), 0);
            // Both rows are read again in the second turn.
            two.back(0);
            two.back(other);
            Sheet.put(two, 0, "n4");
            Sheet.put(two, other, "r6");
        }
    }

    // ---- part 3

    private static void proportions() {
        says("what was told before counts, too; together they are told in lowest terms, both up to 1000.");
        MensuralRows x = Sheet.desk(0, "");
        int[][] steps = {{8, 1, 8, 1}, {5, 1, 40, 1}, {5, 1, 200, 1}, {5, 1, 1000, 1}};
        told(x, steps, 1);
        for (int up = 2; up <= 9; up++) {
            due("above 1000: " + up, x.proportion(0, up, 1), FULL);
        }
        due("9 for 8", x.proportion(0, 9, 8), FULL);
        due("up stays", x.told(0, 3), 1000);
        due("down stays", x.told(0, 4), 1);
        due("1 for 1", x.proportion(0, 1, 1), 1);
        due("9 for 9", x.proportion(0, 9, 9), 1);
        told(x, new int[][] {{1, 9, 1000, 9}, {1, 9, 1000, 81}, {1, 9, 1000, 729}, {9, 1, 1000, 81}, {1, 5, 200, 81}}, 1);
        MensuralRows y = Sheet.desk(0, "");
        told(y, new int[][] {{1, 8, 1, 8}, {1, 5, 1, 40}, {1, 5, 1, 200}, {1, 5, 1, 1000}}, 1);
        for (int down = 2; down <= 9; down++) {
            due("above 1000: " + down, y.proportion(0, 1, down), FULL);
        }
        due("up stays", y.told(0, 3), 1);
        due("down stays", y.told(0, 4), 1000);
        MensuralRows z = Sheet.desk(0, "");
        told(z, new int[][] {{9, 1, 9, 1}, {8, 1, 72, 1}, {7, 1, 504, 1}}, 1);
        due("1008", z.proportion(0, 2, 1), FULL);
        due("1008 by 5", z.proportion(0, 2, 5), FULL);
        due("in lowest terms 504 by 1 still", z.told(0, 3) * 10 + z.told(0, 4), 5041);
        told(z, new int[][] {{4, 6, 336, 1}, {6, 9, 224, 1}, {8, 6, 896, 3}, {9, 9, 896, 3}, {1, 7, 128, 3}}, 1);
    }

    /** Each step: what is told, and what it is together. */
    private static void told(MensuralRows x, int[][] steps, int answer) {
        for (int[] s : steps) {
            due("proportion " + s[0] + " " + s[1], x.proportion(0, s[0], s[1]), answer);
            due("up", x.told(0, 3), s[2]);
            due("down", x.told(0, 4), s[3]);
        }
    }

    private static void isTime(MensuralRows x, int i, long up, long down) {
        due("time " + i, x.time(0, i, 0), up);
        due("time by " + i, x.time(0, i, 1), down);
    }

    private static void times() {
        says("PROPORTIONS say that of what comes then in a VOICE so many (up) go for so many (down)");
        MensuralRows x = Sheet.desk(4, "n2 n2");
        x.proportion(0, 3, 2);
        isTime(x, 1, 72, 1);
        isTime(x, 2, 144, 1);
        Sheet.put(x, 0, "n2 n2 n2");
        isTime(x, 3, 192, 1);
        isTime(x, 5, 288, 1);
        says("A SYMBOL lasts its value in TICKS times down by up (DOTS 0)");
        MensuralRows y = Sheet.desk(4, "");
        y.proportion(0, 5, 7);
        Sheet.put(y, 0, "n2 . r2 n1 .");
        isTime(y, 0, 0, 1);
        isTime(y, 1, 504, 5);
        isTime(y, 2, 504, 5);
        isTime(y, 3, 1008, 5);
        isTime(y, 4, 504, 1);
        isTime(y, 5, 504, 1);
        says("VOICES have a READING that is PICKED (at first the first one).");
        MensuralRows z = Sheet.desk(4, "n2 n3 n3 n2");
        due("picked", z.told(0, 5), 0);
        isTime(z, 1, 72, 1);
        says("TIMES are fractions in lowest terms.");
        MensuralRows w = Sheet.desk(4, "");
        isTime(w, 0, 0, 1);
        w.proportion(0, 9, 1);
        Sheet.put(w, 0, "n2");
        isTime(w, 1, 8, 1);
        w.proportion(0, 7, 9);
        Sheet.put(w, 0, "n2 n2 n2 n2 n2 n2 n2");
        long[] sevenths = {72, 144, 216, 288, 360, 432};
        for (int i = 0; i < sevenths.length; i++) {
            isTime(w, i + 2, 56 + sevenths[i], 7);
        }
        isTime(w, 8, 80, 1);
        greatTimes();
    }

    /** Twenty-four of the longest, each a thousand times as long, behind the longest wait. */
    private static void greatTimes() {
        MensuralRows x = Sheet.desk(14, "");
        told(x, new int[][] {{1, 8, 1, 8}, {1, 5, 1, 40}, {1, 5, 1, 200}, {1, 5, 1, 1000}}, 1);
        Sheet.put(x, 0, Sheet.times(12, "n0 ."));
        due("the longest", x.value(0, 0, 0), 972);
        isTime(x, 24, 12L * 972 * 1000, 1);
        due("it lasts", x.at(0, 12 * 972 * 1000 - 1, 1), 22);
        due("it has ended", x.at(0, 12 * 972 * 1000, 1), NONE);
        due("a follower", x.canon(0, 4, 100000, 0), 0);
        due("its last begins", x.follower(0, 11, 1), 100000 + 22L * 972 * 1000);
    }

    // ---- part 4

    /** The kinds of a ligature, or SHAPE. */
    private static void kinds(int shape, String want, int... pitches) {
        MensuralRows x = Sheet.desk(0, "r4");
        String name = "shape " + shape + " of " + java.util.Arrays.toString(pitches);
        int answer = x.ligature(0, shape, pitches.length, Sheet.bytes(pitches));
        due(name, answer, want.equals("S") ? SHAPE : 1);
        due(name + ": symbols", x.told(0, 0), want.equals("S") ? 1 : 1 + pitches.length);
        for (int i = 0; !want.equals("S") && i < pitches.length; i++) {
            due(name + ": sort " + i, x.symbol(0, i + 1, 0), 1);
            due(name + ": kind " + i, x.symbol(0, i + 1, 1), want.charAt(i) - '0');
            due(name + ": pitch " + i, x.symbol(0, i + 1, 2), pitches[i]);
            due(name + ": plain " + i, x.symbol(0, i + 1, 3), 0);
        }
    }

    private static void ligatures() {
        says("LIGATURES are rows of 2 to 8 NOTES, plain, of pitches that differ from one to the next.");
        int[] up = {-4, -3, -2, -1, 0, 1, 2, 3};
        for (int n = 2; n <= 8; n++) {
            kinds(0, Sheet.times(n, "2").replace(" ", ""), java.util.Arrays.copyOf(up, n));
        }
        MensuralRows x = Sheet.desk(0, "");
        for (int n : new int[] {-1, 0, 1, 9, 10, Sheet.LEAST, Sheet.MOST}) {
            due(n + " notes", x.ligature(0, 0, n, Sheet.bytes(up)), BAD);
        }
        for (int same = 1; same < 8; same++) {
            int[] pitches = up.clone();
            pitches[same] = pitches[same - 1];
            due("neighbours alike at " + same, x.ligature(0, 0, 8, Sheet.bytes(pitches)), SHAPE);
            due("alike behind the last", x.ligature(0, 0, Math.max(2, same), Sheet.bytes(pitches)), same == 1 ? SHAPE : 0);
            while (x.told(0, 0) > 0) {
                x.back(0);
            }
        }
        kinds(0, "2222", 0, 1, 0, 1);
        kinds(0, "1221", 40, -40, 40, -40);
        says("(1 and 2 together, and 4 with a rising end, are no SHAPE.)");
        String[] falling = {"11", "21", "33", "S", "12", "22", "33", "S", "11", "21", "33", "S", "11", "21", "33", "S"};
        String[] rising = {"22", "12", "33", "S", "S", "S", "S", "S", "21", "11", "33", "S", "S", "S", "S", "S"};
        for (int shape = 0; shape < 16; shape++) {
            kinds(shape, falling[shape], 1, 0);
            kinds(shape, rising[shape], 0, 1);
        }
        kinds(4, "S", 5, 4, 3, 4);
        kinds(4, "2222", 3, 4, 5, 4);
        says("KINDS: the first: 2: KIND 3, and so is the second; else it is KIND 2, if it has 1 and the second is below, or "
            + "has no line and the second is above; else KIND 1. The last (of two with 2 it is KIND 3): with 8 KIND 1; with 4 "
            + "KIND 2; without: KIND 1, if it is below the one before, else KIND 2. All others are KIND 2.");
        String[][] ofThree = {
            {"121", "122", "221", "222"}, {"221", "222", "121", "122"}, {"331", "332", "331", "332"}, {"S", "S", "S", "S"},
            {"122", "S", "222", "S"}, {"222", "S", "122", "S"}, {"332", "S", "332", "S"}, {"S", "S", "S", "S"},
            {"121", "121", "221", "221"}, {"221", "221", "121", "121"}, {"331", "331", "331", "331"}, {"S", "S", "S", "S"},
            {"121", "S", "221", "S"}, {"221", "S", "121", "S"}, {"331", "S", "331", "S"}, {"S", "S", "S", "S"}};
        int[][] pitches = {{9, 5, 1}, {9, 5, 7}, {5, 9, 1}, {1, 5, 9}};
        for (int shape = 0; shape < 16; shape++) {
            for (int way = 0; way < 4; way++) {
                kinds(shape, ofThree[shape][way], pitches[way]);
            }
        }
        kinds(10, "33222221", 1, 2, 3, 4, 5, 6, 7, 8);
        kinds(2, "33222222", 1, 2, 3, 4, 5, 6, 7, 8);
        kinds(13, "22222221", 8, 7, 6, 5, 4, 3, 2, 1);
        kinds(5, "22222222", 8, 7, 6, 5, 4, 3, 2, 1);
        kinds(0, "12222221", 8, 7, 6, 5, 4, 3, 2, 1);
        kinds(1, "12222222", 1, 2, 3, 4, 5, 6, 7, 8);
    }

    // ---- part 5

    private static void followers() {
        says("FOLLOWERS, 6 at most, of VOICES that have a READING (the PICKED one as it is then)");
        MensuralRows x = Sheet.desk(4, "n2 n3 n3 n2");
        Sheet.add(x, 4, "n3");
        for (int f = 0; f < 6; f++) {
            due("of a voice without a reading", x.canon(1, 0, 0, 0), NONE);
            due("pick", x.pick(0, f % 2), f == 0 ? 0 : (f + 1) % 2);
            due("canon", x.canon(0, 0, f, 0), f);
        }
        due("a seventh", x.canon(0, 0, 0, 0), FULL);
        due("followers", x.count(1), 6);
        due("back", x.back(0), 3);
        for (int f = 0; f < 6; f++) {
            due("the first of " + f, x.follower(f, 0, 3), f % 2 == 0 ? 72 : 48);
            due("the last of " + f, x.follower(f, 3, 1), f + (f % 2 == 0 ? 144 : 96));
            due("behind the last of " + f, x.follower(f, 4, 1), NONE);
        }
        says("each NOTE and REST in order, or backwards (1), the pitches turned round that of the NOTE that comes first then "
            + "(2: twice that, less the pitch), each twice as long (4); from a time of 0 and more TICKS on, at an interval.");
        String row = "r2 n2:-40 . n1:40 r1";
        int[][] pitches = {{1000, -40, 40, 1000}, {1000, 40, -40, 1000}, {1000, -40, -120, 1000}, {1000, 40, 120, 1000}};
        int[][] lasting = {{72, 72, 144, 144}, {144, 144, 72, 72}};
        for (int how = 0; how < 8; how++) {
            for (int higher = -40; higher <= 40; higher += 40) {
                for (int behind = 0; behind <= 100000; behind += 100000) {
                    MensuralRows y = Sheet.desk(4, row);
                    due("canon " + how, y.canon(0, how, behind, higher), 0);
                    follows(y, pitches[how & 3], lasting[how & 1], how >> 2 == 1 ? 2 : 1, behind, higher);
                }
            }
        }
        MensuralRows z = Sheet.desk(4, "r2 r2 .");
        due("of rests alone, turned", z.canon(0, 3, 0, 40), 0);
        due("its pitch", z.follower(0, 1, 0), 1000);
        due("no more", z.follower(0, 2, 0), NONE);
    }

    private static void follows(MensuralRows y, int[] pitches, int[] lasting, int longer, int behind, int higher) {
        long now = behind;
        for (int i = 0; i < 4; i++) {
            due("pitch " + i, y.follower(0, i, 0), pitches[i] == 1000 ? 1000 : pitches[i] + higher);
            due("begins " + i, y.follower(0, i, 1), now);
            due("begins by " + i, y.follower(0, i, 2), 1);
            due("lasts " + i, y.follower(0, i, 3), (long) lasting[i] * longer);
            due("lasts by " + i, y.follower(0, i, 4), 1);
            now += (long) lasting[i] * longer;
        }
        due("no fifth", y.follower(0, 4, 0), NONE);
    }

    public static void main(String[] args) {
        kinds();
        signs();
        voices();
        symbols();
        plainForms();
        perfectForms();
        divided();
        unitsInside();
        pairs();
        items();
        strain();
        empty();
        many();
        stuck();
        proportions();
        times();
        ligatures();
        followers();
        Sheet.end();
    }
}
