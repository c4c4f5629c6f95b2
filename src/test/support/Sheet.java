import java.util.ArrayList;
import java.util.List;

/**
 * What the tests of the document's bounds share: a sentence of the document is told first, and
 * each answer is compared under it, so that a fault names the sentence that does not hold.
 */
final class Sheet {
    static final int NONE = -1, BAD = -2, FULL = -3, MANY = -4, SHAPE = -5;
    static final int LEAST = Integer.MIN_VALUE, MOST = Integer.MAX_VALUE;
    /** Numbers that are out of all bounds. */
    static final int[] FAR = {LEAST, LEAST + 1, -1000000, 1000000, MOST - 1, MOST};
    /** Twenty symbols under sign 8 with 2 readings for each of the ten notes: 1024. */
    static final String MANY_ROW = "n3 . n3 . n3 . n3 . n3 . n3 . n3 . n3 . n3 . n3 .";
    static final int MANY_SIGN = 8;

    private static int wrong = 0, compared = 0, sentences = 0, comparedBefore = 0;
    private static String sentence = "";

    private Sheet() {
    }

    /** A sentence of the document, word for word; what is compared from here on stands for it. */
    static void says(String words) {
        leave();
        sentence = words;
        sentences++;
    }

    private static void leave() {
        if (!sentence.isEmpty() && compared == comparedBefore) {
            wrong++;
            System.out.println("nothing was compared for \"" + sentence + "\"");
        }
        comparedBefore = compared;
    }

    static void due(String call, long got, long want) {
        compared++;
        if (got != want) {
            wrong++;
            if (wrong < 60) {
                System.out.println("\"" + sentence + "\": " + call + " answered " + got + ", due is " + want);
            }
        }
    }

    static void due(String call, String got, String want) {
        due(call + " (" + got + " for " + want + ")", got.equals(want) ? 1 : 0, 1);
    }

    static void end() {
        leave();
        System.out.println(sentences + " sentences, " + compared + " answers compared, " + wrong + " wrong");
        if (wrong != 0) {
            System.exit(1);
        }
    }

    /** Symbols as words: n2 a plain note, c2 a coloured one, r2 a rest, n2:-7 one with a pitch, "." a dot. */
    static void put(MensuralRows x, int voice, String row) {
        for (String word : row.trim().split(" +")) {
            if (word.isEmpty()) {
                continue;
            }
            int number = x.told(voice, 0);
            due("put " + word, putOne(x, voice, word), number);
        }
    }

    private static int putOne(MensuralRows x, int voice, String word) {
        if (word.equals(".")) {
            return x.dot(voice);
        }
        int kind = word.charAt(1) - '0', pitch = word.length() > 3 ? Integer.parseInt(word.substring(3)) : 0;
        return word.charAt(0) == 'r' ? x.rest(voice, kind) : x.note(voice, kind, pitch, word.charAt(0) == 'c');
    }

    static String times(int n, String words) {
        return (words + " ").repeat(n).trim();
    }

    static MensuralRows desk(int sign, String row) {
        MensuralRows x = new MensuralRows();
        add(x, sign, row);
        return x;
    }

    /** A voice more, with a row. */
    static int add(MensuralRows x, int sign, String row) {
        int voice = x.voice(sign);
        due("voice(" + sign + ")", voice, x.count(0) - 1);
        put(x, voice, row);
        return voice;
    }

    static MensuralRows manyDesk() {
        return desk(MANY_SIGN, MANY_ROW);
    }

    static long bytes(int... pitches) {
        long all = 0;
        for (int i = 0; i < pitches.length; i++) {
            all |= (pitches[i] & 255L) << 8 * i;
        }
        return all;
    }

    /** A reading as text: its strain | its forms | the values of all symbols. */
    static String readingOf(MensuralRows x, int voice, int reading) {
        StringBuilder b = new StringBuilder();
        b.append(x.strained(voice, reading)).append("|");
        for (int i = 0; x.form(voice, reading, i) >= 0 && i < 100; i++) {
            b.append(i > 0 ? " " : "").append(x.form(voice, reading, i));
        }
        b.append("|");
        for (int i = 0; i < x.told(voice, 0); i++) {
            b.append(i > 0 ? " " : "").append(x.value(voice, reading, i));
        }
        return b.toString();
    }

    /** A row has just these readings, in this order. */
    static void reads(int sign, String row, String... want) {
        MensuralRows x = desk(sign, row);
        String name = "sign " + sign + ": " + row;
        due(name + ": readings", x.readings(0), want.length);
        for (int i = 0; i < want.length && i < Math.max(0, x.readings(0)); i++) {
            due(name + ": reading " + i, readingOf(x, 0, i), want[i]);
        }
        due(name + ": the reading behind the last", x.strained(0, want.length), NONE);
        if (want.length > 0) {
            due(name + ": stuck", x.stuck(0), NONE);
        }
    }

    /** A row has no reading and is stuck there. */
    static void sticks(int sign, String row, int where) {
        reads(sign, row);
        due("sign " + sign + ": " + row + ": stuck", desk(sign, row).stuck(0), where);
    }

    /** All that can be asked of a desk. */
    static List<Long> state(MensuralRows x) {
        List<Long> all = new ArrayList<>();
        for (int what = 0; what < 3; what++) {
            all.add((long) x.count(what));
        }
        for (int i = 0; i < 7; i++) {
            all.add((long) x.written(i));
        }
        all.add((long) x.together());
        for (int v = 0; v < x.count(0); v++) {
            addVoice(all, x, v);
        }
        for (int f = 0; f < x.count(1); f++) {
            for (int i = 0; i < 25; i++) {
                for (int what = 0; what < 5; what++) {
                    all.add(x.follower(f, i, what));
                }
            }
        }
        return all;
    }

    private static void addVoice(List<Long> all, MensuralRows x, int v) {
        for (int what = 0; what < 7; what++) {
            all.add((long) x.told(v, what));
        }
        for (int i = 0; i < 25; i++) {
            for (int what = 0; what < 4; what++) {
                all.add((long) x.symbol(v, i, what));
            }
            all.add(x.time(v, i, 0));
            all.add(x.time(v, i, 1));
        }
        all.add((long) x.readings(v));
        all.add((long) x.stuck(v));
        for (int reading = 0; reading < Math.min(4, x.readings(v)); reading++) {
            all.add((long) readingOf(x, v, reading).hashCode());
        }
        for (int w = 0; w < x.count(0); w++) {
            all.add((long) x.meet(v, w, 0));
            all.add((long) x.meet(v, w, 1));
        }
        all.add((long) x.at(v, 100, 3));
    }
}
