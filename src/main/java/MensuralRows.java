import java.util.Arrays;

/** A desk for songs in measured notes: the promises are told in DOC.md, the Java it keeps to in LANGUAGE.md. */
public final class MensuralRows {
    public static final int NONE = -1, BAD = -2, FULL = -3, MANY = -4, SHAPE = -5;

    private static final int MOST_VOICES = 6, MOST_FOLLOWERS = 6, MOST_SYMBOLS = 24, MOST_READINGS = 1000;
    private static final int MOST_WRITTEN = 3, MOST_TERM = 1000, MOST_BEHIND = 100000;
    private static final int KINDS = 7, SMALLEST = 6, SIGNS = 16, HIGHEST = 40;
    private static final int NOTE = 1, REST = 2, DOT = 3;
    private static final int LAWFUL = 0;
    private static final int PITCH_OF_RESTS = 1000;

    private final Voice[] voices = new Voice[MOST_VOICES];
    private final Follower[] followers = new Follower[MOST_FOLLOWERS];
    private final Reader reader = new Reader();
    private final Writer writer = new Writer();
    private final Times times = new Times(), otherTimes = new Times();
    private int voiceCount, followerCount;

    public MensuralRows() {
        // All that is ever kept is made here, so that calls make nothing.
        for (int i = 0; i < voices.length; i++) {
            voices[i] = new Voice();
        }
        for (int i = 0; i < followers.length; i++) {
            followers[i] = new Follower();
        }
    }

    public int voice(int sign) {
        if (sign < 0 || sign >= SIGNS) {
            return BAD;
        }
        Voice fresh = voiceCount < 0 || voiceCount >= voices.length ? null : voices[voiceCount];
        if (fresh == null) {
            return FULL;
        }
        fresh.setSign(sign);
        voiceCount++;
        return voiceCount - 1;
    }

    public int note(int voice, int kind, int pitch, boolean coloured) {
        Voice v = voiceAt(voice);
        if (v == null || !isKind(kind) || !isPitch(pitch)) {
            return BAD;
        }
        return v.append(NOTE, kind, pitch, coloured);
    }

    public int rest(int voice, int kind) {
        Voice v = voiceAt(voice);
        if (v == null || !isKind(kind)) {
            return BAD;
        }
        return v.append(REST, kind, NONE, false);
    }

    public int dot(int voice) {
        Voice v = voiceAt(voice);
        if (v == null) {
            return BAD;
        }
        int before = v.row.sortAt(v.row.size - 1);
        if (before != NOTE && before != REST) {
            return BAD;
        }
        return v.append(DOT, NONE, NONE, false);
    }

    public int ligature(int voice, int shape, int n, long pitches) {
        Voice v = voiceAt(voice);
        if (v == null || shape < 0 || shape > 15 || n < 2 || n > 8 || !hasPitches(n, pitches)) {
            return BAD;
        }
        if (!isShape(shape, n, pitches)) {
            return SHAPE;
        }
        if (!v.row.hasRoomFor(n)) {
            return FULL;
        }
        int first = v.row.size;
        for (int i = 0; i < n; i++) {
            v.append(NOTE, kindInLigature(shape, n, pitches, i), pitchOf(pitches, i), false);
        }
        return first;
    }

    public int proportion(int voice, int up, int down) {
        Voice v = voiceAt(voice);
        if (v == null || up < 1 || up > 9 || down < 1 || down > 9) {
            return BAD;
        }
        return v.row.multiply(up, down) ? 1 : FULL;
    }

    public int back(int voice) {
        Voice v = voiceAt(voice);
        if (v == null) {
            return BAD;
        }
        if (v.row.size == 0) {
            return NONE;
        }
        v.removeLast();
        return v.row.size;
    }

    public int told(int voice, int what) {
        Voice v = voiceAt(voice);
        if (v == null) {
            return BAD;
        }
        switch (what) {
            case 0: return v.row.size;
            case 1: return v.sign;
            case 2: return v.ground;
            case 3: return v.row.up;
            case 4: return v.row.down;
            case 5: return v.picked;
            case 6: return v.fullOf(v.ground);
            default: return BAD;
        }
    }

    public int symbol(int voice, int i, int what) {
        Voice v = voiceAt(voice);
        if (v == null || i < 0 || i >= v.row.size) {
            return BAD;
        }
        int sort = v.row.sortAt(i);
        switch (what) {
            case 0: return sort;
            case 1: return v.row.kindAt(i);
            case 2: return v.row.pitchAt(i);
            case 3: return sort != NOTE ? NONE : v.row.isColouredAt(i) ? 1 : 0;
            default: return BAD;
        }
    }

    public int readings(int voice) {
        Voice v = voiceAt(voice);
        if (v == null) {
            return BAD;
        }
        if (v.stale) {
            reader.read(v);
        }
        return v.isMany() ? MANY : v.total;
    }

    public int stuck(int voice) {
        Voice v = voiceAt(voice);
        if (v == null) {
            return BAD;
        }
        if (v.stale) {
            reader.read(v);
        }
        return v.furthest == v.row.size ? NONE : v.furthest;
    }

    public int strained(int voice, int reading) {
        Voice v = voiceAt(voice);
        int refusal = refusalOf(v, reading);
        if (v == null || refusal != LAWFUL) {
            return refusal;
        }
        reader.makeAgain(v, reading);
        return reader.draft.strain;
    }

    public int form(int voice, int reading, int i) {
        Voice v = voiceAt(voice);
        int refusal = refusalOf(v, reading);
        if (v == null || refusal != LAWFUL) {
            return refusal;
        }
        reader.makeAgain(v, reading);
        return reader.draft.formAt(i);
    }

    public int value(int voice, int reading, int i) {
        Voice v = voiceAt(voice);
        int refusal = refusalOf(v, reading);
        if (v == null || refusal != LAWFUL) {
            return refusal;
        }
        if (i < 0 || i >= v.row.size) {
            return NONE;
        }
        reader.makeAgain(v, reading);
        return reader.draft.ticksAt(i);
    }

    public int pick(int voice, int reading) {
        Voice v = voiceAt(voice);
        int refusal = refusalOf(v, reading);
        if (v == null || refusal != LAWFUL) {
            return refusal;
        }
        reader.makeAgain(v, reading);
        int before = v.picked;
        v.holdPicked(reading, reader.draft);
        return before;
    }

    public long time(int voice, int i, int part) {
        Voice v = voiceAt(voice);
        if (v == null || part < 0 || part > 1) {
            return BAD;
        }
        int refusal = refusalOf(v, v.picked);
        if (refusal != LAWFUL) {
            return refusal;
        }
        if (i < 0 || i > v.row.size) {
            return NONE;
        }
        times.fill(v);
        return part == 0 ? times.upAt(i) : times.downAt(i);
    }

    public int at(int voice, int up, int down) {
        Voice v = voiceAt(voice);
        if (v == null || up < 0 || down < 1) {
            return BAD;
        }
        int refusal = refusalOf(v, v.picked);
        if (refusal != LAWFUL) {
            return refusal;
        }
        times.fill(v);
        for (int i = 0; i < v.row.size; i++) {
            // A DOT lasts no time, so no time is before its end and not before its beginning.
            if (times.compareAt(i, up, down) <= 0 && times.compareAt(i + 1, up, down) > 0) {
                return i;
            }
        }
        return NONE;
    }

    public int together() {
        int answer = 1;
        boolean many = false;
        for (int i = 0; i < voiceCount; i++) {
            Voice v = voiceAt(i);
            int refusal = v == null ? NONE : refusalOf(v, v.picked);
            many = many || refusal == MANY;
            if (v == null || refusal != LAWFUL) {
                answer = 0;
                continue;
            }
            Times now = i == 0 ? otherTimes : times;
            now.fill(v);
            if (i > 0 && !now.isEndOf(otherTimes)) {
                answer = 0;
            }
        }
        return many ? MANY : answer;
    }

    public int meet(int a, int b, int what) {
        Voice one = voiceAt(a), other = voiceAt(b);
        if (one == null || other == null || what < 0 || what > 1) {
            return BAD;
        }
        int refusal = refusalOf(one, one.picked), otherRefusal = refusalOf(other, other.picked);
        if (refusal == MANY || otherRefusal == MANY) {
            return MANY;
        }
        if (refusal != LAWFUL || otherRefusal != LAWFUL) {
            return NONE;
        }
        times.fill(one);
        otherTimes.fill(other);
        int met = 0;
        for (int i = 0; i < one.row.size; i++) {
            for (int j = 0; j < other.row.size; j++) {
                if (beginTogether(one.row, i, other.row, j)
                        && (what == 0 || isSweet(one.row.pitchAt(i), other.row.pitchAt(j)))) {
                    met++;
                }
            }
        }
        return met;
    }

    public int canon(int voice, int how, int behind, int higher) {
        Voice v = voiceAt(voice);
        if (v == null || how < 0 || how > 7 || behind < 0 || behind > MOST_BEHIND || !isPitch(higher)) {
            return BAD;
        }
        int refusal = refusalOf(v, v.picked);
        if (refusal != LAWFUL) {
            return refusal;
        }
        Follower fresh = followerCount < 0 || followerCount >= followers.length ? null : followers[followerCount];
        if (fresh == null) {
            return FULL;
        }
        fresh.follow(v, how, behind, higher);
        followerCount++;
        return followerCount - 1;
    }

    public long follower(int f, int i, int what) {
        if (f < 0 || f >= followerCount || f >= followers.length || what < 0 || what > 4) {
            return BAD;
        }
        Follower one = followers[f];
        return one == null ? BAD : one.tell(i, what);
    }

    public int write(int sign, int n, int a, int b, int c) {
        if (sign < 0 || sign >= SIGNS || n < 1 || n > MOST_WRITTEN || a < 1 || n > 1 && b < 1 || n > 2 && c < 1) {
            return BAD;
        }
        writer.begin(sign, n, a, b, c);
        for (int tries = 0; tries < Writer.MOST_TRIES && writer.advance(); tries++) {
            reader.read(writer.draft);
            if (writer.isAsWanted()) {
                return writer.keep();
            }
        }
        return NONE;
    }

    public int written(int i) {
        return writer.keptAt(i);
    }

    public int count(int what) {
        switch (what) {
            case 0: return voiceCount;
            case 1: return followerCount;
            case 2: return symbolsOfAll();
            default: return BAD;
        }
    }

    private Voice voiceAt(int i) {
        return i < 0 || i >= voiceCount || i >= voices.length ? null : voices[i];
    }

    private int symbolsOfAll() {
        int sum = 0;
        for (int i = 0; i < voiceCount; i++) {
            Voice v = voiceAt(i);
            if (v != null) {
                sum += v.row.size;
            }
        }
        return sum;
    }

    private int refusalOf(Voice v, int reading) {
        if (v == null) {
            return BAD;
        }
        if (v.stale) {
            reader.read(v);
        }
        if (v.isMany()) {
            return MANY;
        }
        return reading < 0 || reading >= v.total ? NONE : LAWFUL;
    }

    private boolean beginTogether(Row row, int i, Row otherRow, int j) {
        return row.sortAt(i) == NOTE && otherRow.sortAt(j) == NOTE
                && times.upAt(i) == otherTimes.upAt(j) && times.downAt(i) == otherTimes.downAt(j);
    }

    private static boolean isSweet(int pitch, int otherPitch) {
        int apart = Math.abs(pitch - otherPitch) % 7;
        return apart == 0 || apart == 2 || apart == 4 || apart == 5;
    }

    private static boolean isKind(int kind) {
        return kind >= 0 && kind < KINDS;
    }

    private static boolean isPitch(int pitch) {
        return pitch >= -HIGHEST && pitch <= HIGHEST;
    }

    private static int pitchOf(long pitches, int i) {
        return (byte) (pitches >> 8 * i);
    }

    private static boolean hasPitches(int n, long pitches) {
        for (int i = 0; i < n; i++) {
            if (!isPitch(pitchOf(pitches, i))) {
                return false;
            }
        }
        return true;
    }

    private static boolean falls(long pitches, int i) {
        return pitchOf(pitches, i) < pitchOf(pitches, i - 1);
    }

    private static boolean isShape(int shape, int n, long pitches) {
        for (int i = 1; i < n; i++) {
            if (pitchOf(pitches, i) == pitchOf(pitches, i - 1)) {
                return false;
            }
        }
        boolean twoLines = (shape & 3) == 3;
        boolean slantsUp = (shape & 4) != 0 && !falls(pitches, n - 1);
        return !twoLines && !slantsUp;
    }

    private static int kindInLigature(int shape, int n, long pitches, int i) {
        if ((shape & 2) != 0 && i < 2) {
            return 3;
        }
        if (i == 0) {
            boolean line = (shape & 1) != 0;
            return line == falls(pitches, 1) ? 2 : 1;
        }
        if (i < n - 1) {
            return 2;
        }
        if ((shape & 8) != 0) {
            return 1;
        }
        return (shape & 4) == 0 && falls(pitches, i) ? 1 : 2;
    }

    /** Symbols, each with the proportion that it was put down under. */
    private static final class Row {
        private final int[] sorts = new int[MOST_SYMBOLS], kinds = new int[MOST_SYMBOLS];
        private final int[] pitches = new int[MOST_SYMBOLS];
        private final boolean[] colours = new boolean[MOST_SYMBOLS];
        private final int[] ups = new int[MOST_SYMBOLS], downs = new int[MOST_SYMBOLS];
        int size, up = 1, down = 1;

        boolean hasRoomFor(int more) {
            return size + more <= MOST_SYMBOLS;
        }

        void add(int sort, int kind, int pitch, boolean coloured) {
            if (size < 0 || size >= MOST_SYMBOLS) {
                return;
            }
            sorts[size] = sort;
            kinds[size] = kind;
            pitches[size] = pitch;
            colours[size] = coloured;
            ups[size] = up;
            downs[size] = down;
            size++;
        }

        boolean multiply(int moreUp, int moreDown) {
            int newUp = up * moreUp, newDown = down * moreDown;
            int common = (int) Ratio.common(newUp, newDown);
            if (common > 1) {
                newUp /= common;
                newDown /= common;
            }
            if (newUp > MOST_TERM || newDown > MOST_TERM) {
                return false;
            }
            up = newUp;
            down = newDown;
            return true;
        }

        int sortAt(int i) {
            return i < 0 || i >= size || i >= MOST_SYMBOLS ? NONE : sorts[i];
        }

        int kindAt(int i) {
            return i < 0 || i >= size || i >= MOST_SYMBOLS ? NONE : kinds[i];
        }

        int pitchAt(int i) {
            return i < 0 || i >= size || i >= MOST_SYMBOLS ? NONE : pitches[i];
        }

        boolean isColouredAt(int i) {
            return i >= 0 && i < size && i < MOST_SYMBOLS && colours[i];
        }

        int upAt(int i) {
            return i < 0 || i >= size || i >= MOST_SYMBOLS ? 1 : ups[i];
        }

        int downAt(int i) {
            return i < 0 || i >= size || i >= MOST_SYMBOLS ? 1 : downs[i];
        }
    }

    /** A row under a sign, what is known of its readings, and the values of the one picked. */
    private static final class Voice {
        private final int[] fulls = new int[KINDS], ticks = new int[MOST_SYMBOLS];
        final Row row = new Row();
        int sign, ground, total, furthest, picked;
        // Rows are read when an answer needs it, not at each symbol.
        boolean stale = true;

        void setSign(int newSign) {
            sign = newSign;
            ground = 4;
            int full = 3;
            for (int k = SMALLEST; k >= 0; k--) {
                if (k < SMALLEST) {
                    full *= isPerfect(k) ? 3 : 2;
                }
                fulls[k] = full;
                ground = isPerfect(k) ? k : ground;
            }
        }

        boolean isPerfect(int kind) {
            return kind >= 0 && kind < 4 && (sign >> kind & 1) == 1;
        }

        int fullOf(int kind) {
            return isKind(kind) ? fulls[kind] : 0;
        }

        int append(int sort, int kind, int pitch, boolean coloured) {
            if (!row.hasRoomFor(1)) {
                return FULL;
            }
            row.add(sort, kind, pitch, coloured);
            change();
            return row.size - 1;
        }

        void removeLast() {
            if (row.size > 0) {
                row.size--;
                change();
            }
        }

        private void change() {
            stale = true;
            picked = 0;
        }

        void know(int readings, int symbolsReached) {
            total = readings;
            furthest = symbolsReached;
            stale = false;
        }

        boolean isMany() {
            return total > MOST_READINGS;
        }

        void holdPicked(int reading, Draft made) {
            picked = reading;
            for (int i = 0; i < MOST_SYMBOLS; i++) {
                ticks[i] = made.ticksAt(i);
            }
        }

        /** What a symbol is in the reading picked. */
        int ticksAt(int i) {
            return i < 0 || i >= MOST_SYMBOLS ? 0 : ticks[i];
        }
    }

    /**
     * The readings of the row that was read last. Each is held as the choices that led to it, many
     * to a word: a thousand readings with their forms and values would need ten times the room.
     */
    private static final class Found {
        // A reading of n symbols has at most 2 n - 1 forms: each joins two parts or stands for a symbol.
        static final int STEPS = 2 * MOST_SYMBOLS;
        private static final int BITS = 5, IN_A_WORD = 12, WORDS = STEPS / IN_A_WORD, STRAINS = 128;
        private final long[] words = new long[MOST_READINGS * WORDS];
        private final int[] strains = new int[MOST_READINGS], order = new int[MOST_READINGS];
        private final int[] firstOfStrain = new int[STRAINS + 1];
        int total;

        void clear() {
            total = 0;
        }

        boolean isMany() {
            return total > MOST_READINGS;
        }

        void add(int[] choices, int steps, int strain, int copies) {
            for (int c = 0; c < copies && !isMany(); c++) {
                if (total >= 0 && total < MOST_READINGS) {
                    strains[total] = Math.max(0, Math.min(strain, STRAINS - 1));
                    pack(choices, Math.min(steps, choices.length));
                }
                total++;
            }
        }

        private void pack(int[] choices, int steps) {
            for (int w = 0; w < WORDS; w++) {
                long word = 0;
                for (int j = 0; j < IN_A_WORD && w * IN_A_WORD + j < steps; j++) {
                    word |= (long) choices[w * IN_A_WORD + j] << j * BITS;
                }
                words[total * WORDS + w] = word;
            }
        }

        /** They were added in the order of their forms: this keeps it among those of one strain. */
        void arrange() {
            if (isMany()) {
                return;
            }
            Arrays.fill(firstOfStrain, 0);
            for (int h = 0; h < total; h++) {
                firstOfStrain[strains[h] + 1]++;
            }
            for (int s = 1; s <= STRAINS; s++) {
                firstOfStrain[s] += firstOfStrain[s - 1];
            }
            for (int h = 0; h < total; h++) {
                int to = firstOfStrain[strains[h]];
                if (to >= 0 && to < MOST_READINGS) {
                    order[to] = h;
                    firstOfStrain[strains[h]]++;
                }
            }
        }

        /** Which choice a reading takes at a step, or 0. */
        int choiceOf(int reading, int step) {
            if (reading < 0 || reading >= total || reading >= MOST_READINGS || step < 0 || step >= STEPS) {
                return 0;
            }
            long word = words[order[reading] * WORDS + step / IN_A_WORD];
            return (int) (word >> step % IN_A_WORD * BITS) & (1 << BITS) - 1;
        }
    }

    /** A reading as far as it is made, and how many readings tell the same. */
    private static final class Draft {
        private static final int FORMS = 2 * MOST_SYMBOLS;
        private final int[] forms = new int[FORMS], ticks = new int[MOST_SYMBOLS];
        int length, strain, place, copies;

        void begin() {
            length = 0;
            strain = 0;
            place = 0;
            copies = 1;
        }

        void tell(int form) {
            if (length >= 0 && length < FORMS) {
                forms[length] = form;
                length++;
            }
            if (form == 7 || form == 12) {
                strain += 1;
            } else if (form == 8) {
                strain += 2;
            } else if (form == 9) {
                strain += 3;
            }
        }

        /** The symbol at the place is so many ticks. */
        void take(int worth) {
            if (place >= 0 && place < MOST_SYMBOLS) {
                ticks[place] = worth;
                place++;
            }
        }

        void takeDotted(int worth) {
            take(worth);
            take(0);
        }

        int formAt(int i) {
            return i < 0 || i >= length || i >= FORMS ? NONE : forms[i];
        }

        int ticksAt(int i) {
            return i < 0 || i >= MOST_SYMBOLS ? 0 : ticks[i];
        }
    }

    /**
     * Where the parts of a row can end, for each kind, form and place that they begin at.
     * A mask's bit p stands for the place before symbol p.
     */
    private static final class Spans {
        private static final int FORMS = 19, PLACES = MOST_SYMBOLS + 3;
        private final int[] ends = new int[KINDS * FORMS * PLACES];
        final int[] units = new int[KINDS * PLACES], pairs = new int[KINDS * PLACES];
        final int[] thirds = new int[KINDS * PLACES];
        private final int[] plain = new int[KINDS], rests = new int[KINDS], coloured = new int[KINDS];
        private final int[] altered = new int[KINDS], lateImperfect = new int[KINDS];
        int dots, size, toEnd, reached;

        void fill(Voice v) {
            clear();
            size = v.row.size;
            // None is greater than the kind of what does not come.
            int next = KINDS;
            for (int p = size - 1; p >= 0; p--) {
                sortSymbol(v.row, p, next);
                next = v.row.sortAt(p) == DOT ? next : v.row.kindAt(p);
            }
            for (int p = size - 1; p >= 0; p--) {
                for (int k = SMALLEST; k >= 0; k--) {
                    fillThird(k, p);
                    fillPair(k, p);
                    if (k < v.ground) {
                        fillGreater(k, p);
                    } else if (v.isPerfect(k)) {
                        fillPerfect(k, p);
                    } else {
                        fillImperfect(k, p);
                    }
                }
            }
            joinItems(v.ground);
        }

        private void clear() {
            dots = 0;
            Arrays.fill(ends, 0);
            Arrays.fill(units, 0);
            Arrays.fill(pairs, 0);
            Arrays.fill(thirds, 0);
            Arrays.fill(plain, 0);
            Arrays.fill(rests, 0);
            Arrays.fill(coloured, 0);
            Arrays.fill(altered, 0);
            Arrays.fill(lateImperfect, 0);
        }

        private void sortSymbol(Row row, int p, int next) {
            int bit = 1 << p, kind = row.kindAt(p);
            if (row.sortAt(p) == DOT) {
                dots |= bit;
            } else if (isKind(kind) && row.sortAt(p) == REST) {
                rests[kind] |= bit;
            } else if (isKind(kind) && row.isColouredAt(p)) {
                coloured[kind] |= bit;
            } else if (isKind(kind)) {
                plain[kind] |= bit;
                altered[kind] |= next < kind ? bit : 0;
                lateImperfect[kind] |= next != kind ? bit : 0;
            }
        }

        /** Plain notes that form 8 can end with. */
        int alteredOf(int kind) {
            return isKind(kind) ? altered[kind] : 0;
        }

        /** Plain notes that form 9 can end with. */
        int lateImperfectOf(int kind) {
            return isKind(kind) ? lateImperfect[kind] : 0;
        }

        /** Plain notes with a dot behind. */
        int dottedOf(int kind) {
            return isKind(kind) ? plain[kind] & dots >> 1 : 0;
        }

        int endsOf(int kind, int form, int p) {
            boolean known = isKind(kind) && form >= 0 && form < FORMS && p >= 0 && p < PLACES;
            return known ? ends[(kind * FORMS + form) * PLACES + p] : 0;
        }

        /** The places from which a part of that table can be done so that it ends at one of those places. */
        int before(int[] table, int kind, int places) {
            int mask = 0, first = kind * PLACES;
            for (int p = 0; p < size && first >= 0 && first + p < table.length; p++) {
                mask |= (table[first + p] & places) != 0 ? 1 << p : 0;
            }
            return mask;
        }

        private int after(int[] table, int kind, int places) {
            int mask = 0, first = kind * PLACES;
            for (int p = 0; p < size && first >= 0 && first + p < table.length; p++) {
                mask |= (places >> p & 1) != 0 ? table[first + p] : 0;
            }
            return mask;
        }

        private static int endsIn(int[] table, int kind, int p) {
            int i = kind * PLACES + p;
            return p < 0 || p >= PLACES || i < 0 || i >= table.length ? 0 : table[i];
        }

        /** Each form's ends count for what it is a form of, too. */
        private void keep(int[] table, int kind, int form, int p, int mask) {
            int i = kind * PLACES + p, j = (kind * FORMS + form) * PLACES + p;
            if (i >= 0 && i < table.length && j >= 0 && j < ends.length) {
                table[i] |= mask;
                ends[j] = mask;
            }
        }

        private void keepDivided(int kind, int form, int p, int mask) {
            keep(units, kind, form, p, mask | (mask & dots) << 1);
        }

        private int startsIn(int[] symbols, int kind, int p) {
            return kind < 0 || kind >= symbols.length ? 0 : symbols[kind] & 1 << p;
        }

        private void fillThird(int k, int p) {
            int next = k < SMALLEST ? coloured[k + 1] : 0;
            keep(thirds, k, 16, p, startsIn(coloured, k, p) << 1);
            keep(thirds, k, 17, p, (next & next >> 1 & 1 << p) << 2);
        }

        private void fillPair(int k, int p) {
            keep(pairs, k, 15, p, after(thirds, k, after(thirds, k, endsIn(thirds, k, p))));
        }

        private void fillGreater(int k, int p) {
            keep(units, k, 1, p, startsIn(plain, k, p) << 1);
            keep(units, k, 2, p, startsIn(rests, k, p) << 1);
            keep(units, k, 18, p, (dottedOf(k) & 1 << p) << 2);
        }

        private void fillImperfect(int k, int p) {
            int unit = endsIn(units, k + 1, p), dotted = dottedOf(k);
            keep(units, k, 1, p, startsIn(plain, k, p) << 1);
            keep(units, k, 2, p, startsIn(rests, k, p) << 1);
            keep(units, k, 4, p, after(units, k + 1, unit));
            keep(units, k, 5, p, endsIn(pairs, k + 1, p));
            keep(pairs, k, 13, p, (dotted & 1 << p) != 0 ? endsIn(units, k + 1, p + 2) : 0);
            keep(pairs, k, 14, p, (unit & dotted) << 2);
        }

        private void fillPerfect(int k, int p) {
            int unit = endsIn(units, k + 1, p), pair = endsIn(pairs, k + 1, p);
            int plainHere = startsIn(plain, k, p);
            keepDivided(k, 1, p, plainHere << 1);
            keepDivided(k, 2, p, startsIn(rests, k, p) << 1);
            keep(units, k, 3, p, (dottedOf(k) & 1 << p) << 2);
            keepDivided(k, 6, p, after(units, k + 1, after(units, k + 1, unit)));
            keepDivided(k, 7, p, plainHere != 0 ? endsIn(units, k + 1, p + 1) : 0);
            keepDivided(k, 8, p, (unit & alteredOf(k + 1)) << 1);
            keepDivided(k, 9, p, (unit & lateImperfectOf(k)) << 1);
            keepDivided(k, 10, p, after(pairs, k + 1, unit));
            keepDivided(k, 11, p, after(units, k + 1, pair));
        }

        private void joinItems(int ground) {
            toEnd = 1 << size;
            for (int p = size - 1; p >= 0; p--) {
                toEnd |= (itemEnds(ground, p) & toEnd) != 0 ? 1 << p : 0;
            }
            reached = 1;
            for (int p = 0; p < size; p++) {
                reached |= (reached >> p & 1) != 0 ? itemEnds(ground, p) : 0;
            }
        }

        private int itemEnds(int ground, int p) {
            int mask = 0;
            // Of kinds above the ground the tables hold nothing but items.
            for (int k = 0; k <= ground; k++) {
                mask |= endsIn(units, k, p) | endsIn(pairs, k, p);
            }
            return mask;
        }
    }

    /**
     * What is still due of a reading: a chain of tasks, each with the places from which it and all
     * behind it can be done, so that no choice leads to where nothing fits.
     */
    private static final class Chain {
        static final int ROW = 0, UNIT = 1, PAIR = 2, THIRD = 3, TAKE = 4, TAKE_DOTTED = 5, DIVIDE = 6;
        // Of 24 symbols at most 47 forms are due, as many dots behind units, and 12 notes behind units.
        static final int TASKS = 128;
        private final int[] sorts = new int[TASKS], kinds = new int[TASKS], worths = new int[TASKS];
        private final int[] rests = new int[TASKS], places = new int[TASKS];
        final Spans spans = new Spans();
        int made;

        /** The row is task 0, and what comes behind an item is the row again. */
        void begin() {
            made = 0;
            push(ROW, 0, 0, 0, spans.toEnd);
        }

        int unit(int kind, int rest) {
            return push(UNIT, kind, 0, rest, spans.before(spans.units, kind, placesOf(rest)));
        }

        int pair(int kind, int rest) {
            return push(PAIR, kind, 0, rest, spans.before(spans.pairs, kind, placesOf(rest)));
        }

        int third(int kind, int rest) {
            return push(THIRD, kind, 0, rest, spans.before(spans.thirds, kind, placesOf(rest)));
        }

        int take(int notes, int worth, int rest) {
            return push(TAKE, 0, worth, rest, placesOf(rest) >> 1 & notes);
        }

        int takeDotted(int notes, int worth, int rest) {
            return push(TAKE_DOTTED, 0, worth, rest, placesOf(rest) >> 2 & notes);
        }

        int divide(int rest) {
            return push(DIVIDE, 0, 0, rest, placesOf(rest) | placesOf(rest) >> 1 & spans.dots);
        }

        private int push(int sort, int kind, int worth, int rest, int from) {
            if (made < 0 || made >= TASKS) {
                return 0;
            }
            sorts[made] = sort;
            kinds[made] = kind;
            worths[made] = worth;
            rests[made] = rest;
            places[made] = from;
            made++;
            return made - 1;
        }

        int sortOf(int task) {
            return task < 0 || task >= TASKS ? ROW : sorts[task];
        }

        int kindOf(int task) {
            return task < 0 || task >= TASKS ? 0 : kinds[task];
        }

        int worthOf(int task) {
            return task < 0 || task >= TASKS ? 0 : worths[task];
        }

        int restOf(int task) {
            return task < 0 || task >= TASKS ? 0 : rests[task];
        }

        int placesOf(int task) {
            return task < 0 || task >= TASKS ? 0 : places[task];
        }
    }

    /** Finds all readings of a row, one form after the other, the lesser form first. */
    private static final class Reader {
        // A row's choice 16 is form 15 of the greater one of the two kinds that can begin there.
        private static final int PAIR_OF_GREATER = 16;
        private static final int STEPS = Found.STEPS, MOST_TURNS = 1000000;
        private final Chain chain = new Chain();
        private final Found found = new Found();
        final Draft draft = new Draft();
        private final int[] stepTask = new int[STEPS], stepPlace = new int[STEPS], stepChoice = new int[STEPS];
        private final int[] stepMade = new int[STEPS], stepLength = new int[STEPS];
        private final int[] stepStrain = new int[STEPS], stepCopies = new int[STEPS];
        private int task, leastStrain;
        private Voice readLast;

        void read(Voice v) {
            chain.spans.fill(v);
            found.clear();
            begin();
            if (v.row.size == 0) {
                keep(v, 0);
            }
            int depth = v.row.size == 0 ? NONE : 0;
            save(depth);
            for (int turn = 0; turn < MOST_TURNS && depth >= 0 && depth < STEPS && !found.isMany(); turn++) {
                int choice = nextChoice(v, stepTask[depth], stepPlace[depth], stepChoice[depth]);
                if (choice == 0) {
                    depth--;
                    continue;
                }
                restore(depth);
                stepChoice[depth] = choice;
                choose(v, choice);
                settle(v.row);
                if (chain.sortOf(task) == Chain.ROW && draft.place == v.row.size) {
                    keep(v, depth + 1);
                } else if (depth + 1 < STEPS) {
                    depth++;
                    save(depth);
                }
            }
            found.arrange();
            readLast = v;
            v.know(found.total, 31 - Integer.numberOfLeadingZeros(chain.spans.reached));
        }

        private void begin() {
            task = 0;
            chain.begin();
            draft.begin();
        }

        private void keep(Voice v, int steps) {
            // A row that has not changed is read again for what was found only: what is picked stays.
            if (v.stale && (found.total == 0 || draft.strain < leastStrain)) {
                v.holdPicked(0, draft);
                leastStrain = draft.strain;
            }
            found.add(stepChoice, steps, draft.strain, draft.copies);
        }

        /** The draft is one of the readings of a row that is not stale. */
        void makeAgain(Voice v, int reading) {
            if (readLast != v) {
                read(v);
            }
            begin();
            for (int step = 0; step < STEPS && draft.place < v.row.size; step++) {
                choose(v, found.choiceOf(reading, step));
                settle(v.row);
            }
        }

        private void save(int depth) {
            if (depth < 0 || depth >= STEPS) {
                return;
            }
            stepTask[depth] = task;
            stepPlace[depth] = draft.place;
            stepChoice[depth] = 0;
            stepMade[depth] = chain.made;
            stepLength[depth] = draft.length;
            stepStrain[depth] = draft.strain;
            stepCopies[depth] = draft.copies;
        }

        private void restore(int depth) {
            if (depth < 0 || depth >= STEPS) {
                return;
            }
            task = stepTask[depth];
            draft.place = stepPlace[depth];
            chain.made = stepMade[depth];
            draft.length = stepLength[depth];
            draft.strain = stepStrain[depth];
            draft.copies = stepCopies[depth];
        }

        private int nextChoice(Voice v, int from, int p, int last) {
            int sort = chain.sortOf(from);
            int least = sort == Chain.PAIR ? 13 : sort == Chain.THIRD ? 16 : 1;
            int most = sort == Chain.UNIT ? 11 : sort == Chain.PAIR ? 15 : sort == Chain.THIRD ? 17 : 18;
            int wanted = chain.placesOf(chain.restOf(from));
            for (int choice = Math.max(least, last + 1); choice <= most; choice++) {
                int kind = sort == Chain.ROW ? itemKind(v, choice, p) : chain.kindOf(from);
                int form = sort == Chain.ROW ? itemForm(choice) : choice;
                if ((chain.spans.endsOf(kind, form, p) & wanted) != 0) {
                    return choice;
                }
            }
            return 0;
        }

        private static int itemForm(int choice) {
            return choice == PAIR_OF_GREATER ? 15 : choice;
        }

        /** The kind of the item that a choice of the row means, or NONE. */
        private int itemKind(Voice v, int choice, int p) {
            int kind = v.row.kindAt(p);
            switch (choice) {
                case 1: case 2: case 18: break;
                case 15: kind = v.row.isColouredAt(p) ? kind : NONE; break;
                case PAIR_OF_GREATER: kind = v.row.isColouredAt(p) ? kind - 1 : NONE; break;
                case 12: case 17: return NONE;
                default: return v.ground;
            }
            return kind >= 0 && kind <= v.ground ? kind : NONE;
        }

        private void choose(Voice v, int choice) {
            boolean item = chain.sortOf(task) == Chain.ROW;
            int kind = item ? itemKind(v, choice, draft.place) : chain.kindOf(task);
            int form = item ? itemForm(choice) : choice;
            int rest = chain.restOf(task);
            draft.tell(form);
            task = form <= 11 ? partsOfUnit(v, form, kind, rest) : partsOfOthers(v, form, kind, rest);
        }

        private int partsOfUnit(Voice v, int form, int k, int rest) {
            int full = v.fullOf(k), two = 2 * v.fullOf(k + 1);
            int then = v.isPerfect(k) && form != 3 ? chain.divide(rest) : rest;
            switch (form) {
                case 1: case 2:
                    draft.take(full);
                    return then;
                case 3:
                    draft.takeDotted(full);
                    return then;
                case 4: return chain.unit(k + 1, chain.unit(k + 1, then));
                case 5: return chain.pair(k + 1, then);
                case 6: return chain.unit(k + 1, chain.unit(k + 1, chain.unit(k + 1, then)));
                case 7:
                    draft.take(two);
                    return chain.unit(k + 1, then);
                case 8: return chain.unit(k + 1, chain.take(chain.spans.alteredOf(k + 1), two, then));
                case 9: return chain.unit(k + 1, chain.take(chain.spans.lateImperfectOf(k), two, then));
                case 10: return chain.unit(k + 1, chain.pair(k + 1, then));
                default: return chain.pair(k + 1, chain.unit(k + 1, then));
            }
        }

        private int partsOfOthers(Voice v, int form, int k, int rest) {
            int full = v.fullOf(k), three = 3 * v.fullOf(k + 1);
            switch (form) {
                case 13:
                    draft.takeDotted(three);
                    return chain.unit(k + 1, rest);
                case 14: return chain.unit(k + 1, chain.takeDotted(chain.spans.dottedOf(k), three, rest));
                case 15: return chain.third(k, chain.third(k, chain.third(k, rest)));
                case 16:
                    draft.take(full / 3 * 2);
                    return rest;
                case 17:
                    draft.take(full / 3);
                    draft.take(full / 3);
                    return rest;
                default:
                    draft.takeDotted(full / 2 * 3);
                    return rest;
            }
        }

        /** Does the tasks that leave no choice. */
        private void settle(Row row) {
            for (int i = 0; i < Chain.TASKS; i++) {
                int sort = chain.sortOf(task);
                if (sort == Chain.TAKE) {
                    draft.take(chain.worthOf(task));
                } else if (sort == Chain.TAKE_DOTTED) {
                    draft.takeDotted(chain.worthOf(task));
                } else if (sort != Chain.DIVIDE) {
                    return;
                }
                task = sort == Chain.DIVIDE ? divide(row, task) : chain.restOf(task);
            }
        }

        /**
         * Units that end at one place may each be the one that the dot divides. The forms told are
         * the same then, so these readings are neighbours and are counted, not walked one by one.
         */
        private int divide(Row row, int first) {
            int rest = first, ending = 0;
            for (int i = 0; i < KINDS && chain.sortOf(rest) == Chain.DIVIDE; i++) {
                ending++;
                rest = chain.restOf(rest);
            }
            if (row.sortAt(draft.place) == DOT) {
                draft.tell(12);
                draft.take(0);
                draft.copies *= ending;
            }
            return rest;
        }
    }

    /** Fractions in lowest terms, of numbers from 0 on. */
    private static final class Ratio {
        long up, down = 1;

        static long common(long a, long b) {
            long x = a, y = b;
            for (int turn = 0; turn < 1000 && y != 0; turn++) {
                long r = x % y;
                x = y;
                y = r;
            }
            return x;
        }

        void set(long newUp, long newDown) {
            long common = common(newUp, newDown);
            up = common > 1 ? newUp / common : newUp;
            down = common > 1 ? newDown / common : newDown;
        }

        void add(Ratio more) {
            long common = common(down, more.down);
            if (common > 0) {
                long part = more.down / common;
                set(up * part + more.up * (down / common), down * part);
            }
        }

        /** Below 0, 0 or above 0, as a / b is below, at or above c / d; without products, which could be too great. */
        static int compare(long a, long b, long c, long d) {
            long p = a, q = b, r = c, s = d;
            int turned = 1;
            for (int turn = 0; turn < 1000 && q > 0 && s > 0; turn++) {
                int whole = Long.compare(p / q, r / s);
                if (whole != 0) {
                    return whole * turned;
                }
                long left = p % q, otherLeft = r % s;
                if (left == 0 || otherLeft == 0) {
                    return Long.compare(left, otherLeft) * turned;
                }
                p = q;
                q = left;
                r = s;
                s = otherLeft;
                turned = -turned;
            }
            return 0;
        }
    }

    /** When the symbols of a voice begin in the reading picked; the last one is the end of all. */
    private static final class Times {
        private final long[] ups = new long[MOST_SYMBOLS + 1], downs = new long[MOST_SYMBOLS + 1];
        private final Ratio now = new Ratio(), lasting = new Ratio();
        private int size;

        void fill(Voice v) {
            size = Math.max(0, Math.min(v.row.size, MOST_SYMBOLS));
            now.set(0, 1);
            for (int i = 0; i <= size; i++) {
                ups[i] = now.up;
                downs[i] = now.down;
                if (i < size) {
                    lasting.set((long) v.ticksAt(i) * v.row.downAt(i), v.row.upAt(i));
                    now.add(lasting);
                }
            }
        }

        long upAt(int i) {
            return i < 0 || i > size || i >= ups.length ? NONE : ups[i];
        }

        long downAt(int i) {
            return i < 0 || i > size || i >= downs.length ? NONE : downs[i];
        }

        int compareAt(int i, long up, long down) {
            return Ratio.compare(upAt(i), downAt(i), up, down);
        }

        boolean isEndOf(Times other) {
            return upAt(size) == other.upAt(other.size) && downAt(size) == other.downAt(other.size);
        }
    }

    /** What follows a voice, as the voice was when the canon was told. */
    private static final class Follower {
        private static final int BACKWARDS = 1, TURNED = 2, DOUBLED = 4;
        private final int[] pitches = new int[MOST_SYMBOLS];
        private final long[] beginUps = new long[MOST_SYMBOLS], beginDowns = new long[MOST_SYMBOLS];
        private final long[] lengthUps = new long[MOST_SYMBOLS], lengthDowns = new long[MOST_SYMBOLS];
        private final Ratio now = new Ratio(), lasting = new Ratio();
        private int size;

        void follow(Voice v, int how, int behind, int higher) {
            now.set(behind, 1);
            boolean pivoted = false;
            int pivot = 0;
            for (int j = 0; j < v.row.size; j++) {
                int i = (how & BACKWARDS) != 0 ? v.row.size - 1 - j : j;
                if (v.row.sortAt(i) == DOT) {
                    continue;
                }
                int pitch = v.row.pitchAt(i);
                boolean sounds = v.row.sortAt(i) == NOTE;
                if (sounds && !pivoted) {
                    pivoted = true;
                    pivot = pitch;
                }
                int turned = (how & TURNED) != 0 ? 2 * pivot - pitch : pitch;
                int longer = (how & DOUBLED) != 0 ? 2 : 1;
                lasting.set((long) v.ticksAt(i) * v.row.downAt(i) * longer, v.row.upAt(i));
                append(sounds ? turned + higher : PITCH_OF_RESTS);
                now.add(lasting);
            }
        }

        private void append(int pitch) {
            if (size < 0 || size >= MOST_SYMBOLS) {
                return;
            }
            pitches[size] = pitch;
            beginUps[size] = now.up;
            beginDowns[size] = now.down;
            lengthUps[size] = lasting.up;
            lengthDowns[size] = lasting.down;
            size++;
        }

        long tell(int i, int what) {
            if (i < 0 || i >= size || i >= MOST_SYMBOLS) {
                return NONE;
            }
            switch (what) {
                case 0: return pitches[i];
                case 1: return beginUps[i];
                case 2: return beginDowns[i];
                case 3: return lengthUps[i];
                case 4: return lengthDowns[i];
                default: return BAD;
            }
        }
    }

    /** Finds rows for values. A choice for a note is twice its kind, and 1 more with a dot. */
    private static final class Writer {
        static final int CHOICES = 2 * KINDS, MOST_TRIES = (MOST_WRITTEN + 1) * CHOICES * CHOICES * CHOICES;
        private static final int WRITTEN_DOT = 7;
        final Voice draft = new Voice();
        private final int[] wanted = new int[MOST_WRITTEN], choices = new int[MOST_WRITTEN];
        private final int[] fitting = new int[MOST_WRITTEN * CHOICES], fittingCount = new int[MOST_WRITTEN];
        private final int[] kept = new int[2 * MOST_WRITTEN];
        private int notes, rows, turn, keptSize;

        void begin(int sign, int n, int a, int b, int c) {
            draft.setSign(sign);
            notes = Math.max(0, Math.min(n, MOST_WRITTEN));
            wanted[0] = a;
            wanted[1] = b;
            wanted[2] = c;
            rows = 1;
            turn = 0;
            for (int i = 0; i < notes; i++) {
                fittingCount[i] = 0;
                for (int choice = 0; choice < CHOICES; choice++) {
                    if (canBe(choice >> 1, (choice & 1) == 1, wanted[i])) {
                        fitting[i * CHOICES + fittingCount[i]] = choice;
                        fittingCount[i]++;
                    }
                }
                rows *= fittingCount[i];
            }
        }

        /** Whether some form gives a note that value: so few rows must be read. */
        private boolean canBe(int kind, boolean dotted, int worth) {
            int full = draft.fullOf(kind), next = draft.fullOf(kind + 1);
            boolean perfect = draft.isPerfect(kind);
            return worth == full
                    || perfect && worth == 2 * next
                    || draft.isPerfect(kind - 1) && worth == 2 * full
                    || dotted && !perfect && worth == 3 * next;
        }

        /** The next row is drafted, if there is one: all with no dot first, then all with one, and so on. */
        boolean advance() {
            for (int tries = 0; tries < MOST_TRIES && rows > 0 && turn < (notes + 1) * rows; tries++) {
                int dotsDue = turn / rows;
                int dots = chooseRow(turn % rows);
                turn++;
                if (dots == dotsDue) {
                    putDown();
                    return true;
                }
            }
            return false;
        }

        /** Row numbers have the first note's choice as their highest digit; answers how many dots there are. */
        private int chooseRow(int number) {
            int left = number, dots = 0;
            for (int i = notes - 1; i >= 0 && i < MOST_WRITTEN; i--) {
                if (fittingCount[i] < 1) {
                    return NONE;
                }
                choices[i] = fitting[i * CHOICES + left % fittingCount[i]];
                left /= fittingCount[i];
                dots += choices[i] & 1;
            }
            return dots;
        }

        private void putDown() {
            draft.row.size = 0;
            draft.stale = true;
            for (int i = 0; i < notes && i < MOST_WRITTEN; i++) {
                draft.row.add(NOTE, choices[i] >> 1, 0, false);
                if ((choices[i] & 1) == 1) {
                    draft.row.add(DOT, NONE, NONE, false);
                }
            }
        }

        boolean isAsWanted() {
            if (draft.isMany() || draft.total == 0) {
                return false;
            }
            int note = 0;
            for (int i = 0; i < draft.row.size; i++) {
                if (draft.row.sortAt(i) == NOTE) {
                    if (note >= MOST_WRITTEN || draft.ticksAt(i) != wanted[note]) {
                        return false;
                    }
                    note++;
                }
            }
            return true;
        }

        int keep() {
            keptSize = Math.min(draft.row.size, kept.length);
            for (int i = 0; i < keptSize; i++) {
                kept[i] = draft.row.sortAt(i) == DOT ? WRITTEN_DOT : draft.row.kindAt(i);
            }
            return keptSize;
        }

        int keptAt(int i) {
            return i < 0 || i >= keptSize || i >= kept.length ? NONE : kept[i];
        }
    }
}
