import java.util.ArrayList;
import java.util.Collections;
import java.util.HashMap;
import java.util.HashSet;
import java.util.List;
import java.util.Map;
import java.util.Set;

/**
 * The whole desk once more, in the plainest way and without regard to room or time: each call as its
 * promise words it. A row that the slow reader gives up ends in TooMany.
 */
final class DeskModel {
    private static final int NONE = -1, BAD = -2, FULL = -3, MANY = -4, SHAPE = -5;

    private static final class Voice {
        final int sign;
        final List<Symbol> row = new ArrayList<>();
        final List<int[]> proportions = new ArrayList<>();
        int up = 1, down = 1, picked;
        List<Part> readings;

        Voice(int sign) {
            this.sign = sign;
        }

        Oracle oracle() {
            return new Oracle(sign, row);
        }

        List<Part> read() {
            if (readings == null) {
                readings = oracle().readings();
            }
            return readings;
        }

        void add(Symbol s) {
            row.add(s);
            proportions.add(new int[] {up, down});
            change();
        }

        void change() {
            readings = null;
            picked = 0;
        }

        Fraction lasts(int i) {
            long ticks = read().get(picked).values().get(i);
            return Fraction.of(ticks * proportions.get(i)[1], proportions.get(i)[0]);
        }

        Fraction begins(int i) {
            Fraction sum = Fraction.of(0, 1);
            for (int j = 0; j < i; j++) {
                sum = sum.plus(lasts(j));
            }
            return sum;
        }
    }

    private record Followed(int pitch, Fraction begins, Fraction lasts) {
    }

    private final List<Voice> voices = new ArrayList<>();
    private final List<List<Followed>> followers = new ArrayList<>();
    private List<Symbol> written = List.of();

    private static boolean within(int n, int least, int most) {
        return n >= least && n <= most;
    }

    private boolean isVoice(int v) {
        return within(v, 0, voices.size() - 1);
    }

    /** MANY, or NONE if there is no such reading, or 0. */
    private int refusal(int v, int reading) {
        int size = voices.get(v).read().size();
        return size > 1000 ? MANY : within(reading, 0, size - 1) ? 0 : NONE;
    }

    private int refusal(int v) {
        return refusal(v, voices.get(v).picked);
    }

    int voice(int sign) {
        if (!within(sign, 0, 15)) {
            return BAD;
        }
        if (voices.size() == 6) {
            return FULL;
        }
        voices.add(new Voice(sign));
        return voices.size() - 1;
    }

    private int add(int v, Symbol s) {
        if (voices.get(v).row.size() == 24) {
            return FULL;
        }
        voices.get(v).add(s);
        return voices.get(v).row.size() - 1;
    }

    int note(int voice, int kind, int pitch, boolean coloured) {
        boolean good = isVoice(voice) && within(kind, 0, 6) && within(pitch, -40, 40);
        return good ? add(voice, new Symbol(1, kind, pitch, coloured)) : BAD;
    }

    int rest(int voice, int kind) {
        return isVoice(voice) && within(kind, 0, 6) ? add(voice, new Symbol(2, kind, NONE, false)) : BAD;
    }

    int dot(int voice) {
        if (!isVoice(voice)) {
            return BAD;
        }
        List<Symbol> row = voices.get(voice).row;
        return row.isEmpty() || row.get(row.size() - 1).sort() == 3 ? BAD : add(voice, Symbol.DOT);
    }

    int ligature(int voice, int shape, int n, long pitches) {
        if (!isVoice(voice) || !within(shape, 0, 15) || !within(n, 2, 8)) {
            return BAD;
        }
        int[] pitch = new int[n];
        boolean differ = true;
        for (int i = 0; i < n; i++) {
            pitch[i] = (byte) (pitches >>> 8 * i);
            if (!within(pitch[i], -40, 40)) {
                return BAD;
            }
            differ = differ && (i == 0 || pitch[i] != pitch[i - 1]);
        }
        boolean down = (shape & 1) != 0, up = (shape & 2) != 0, slant = (shape & 4) != 0;
        if (!differ || down && up || slant && pitch[n - 1] > pitch[n - 2]) {
            return SHAPE;
        }
        if (voices.get(voice).row.size() + n > 24) {
            return FULL;
        }
        int[] kinds = new int[n];
        for (int i = 0; i < n; i++) {
            kinds[i] = 2;
        }
        boolean lastBelow = pitch[n - 1] < pitch[n - 2], secondBelow = pitch[1] < pitch[0];
        kinds[n - 1] = (shape & 8) != 0 ? 1 : slant ? 2 : lastBelow ? 1 : 2;
        kinds[0] = up ? 3 : down && secondBelow || !down && !secondBelow ? 2 : 1;
        kinds[1] = up ? 3 : kinds[1];
        for (int i = 0; i < n; i++) {
            add(voice, new Symbol(1, kinds[i], pitch[i], false));
        }
        return voices.get(voice).row.size() - n;
    }

    int proportion(int voice, int up, int down) {
        if (!isVoice(voice) || !within(up, 1, 9) || !within(down, 1, 9)) {
            return BAD;
        }
        Voice v = voices.get(voice);
        Fraction both = Fraction.of((long) v.up * up, (long) v.down * down);
        if (both.up().intValue() > 1000 || both.down().intValue() > 1000) {
            return FULL;
        }
        v.up = both.up().intValue();
        v.down = both.down().intValue();
        return 1;
    }

    int back(int voice) {
        if (!isVoice(voice)) {
            return BAD;
        }
        Voice v = voices.get(voice);
        if (v.row.isEmpty()) {
            return NONE;
        }
        v.row.remove(v.row.size() - 1);
        v.proportions.remove(v.row.size());
        v.change();
        return v.row.size();
    }

    int told(int voice, int what) {
        if (!isVoice(voice) || !within(what, 0, 6)) {
            return BAD;
        }
        Voice v = voices.get(voice);
        int ground = v.oracle().ground();
        return List.of(v.row.size(), v.sign, ground, v.up, v.down, v.picked, v.oracle().full(ground)).get(what);
    }

    int symbol(int voice, int i, int what) {
        if (!isVoice(voice) || !within(i, 0, voices.get(voice).row.size() - 1) || !within(what, 0, 3)) {
            return BAD;
        }
        Symbol s = voices.get(voice).row.get(i);
        boolean known = what == 0 || s.sort() == 1 || s.sort() == 2 && what == 1;
        return known ? List.of(s.sort(), s.kind(), s.pitch(), s.coloured() ? 1 : 0).get(what) : NONE;
    }

    int readings(int voice) {
        if (!isVoice(voice)) {
            return BAD;
        }
        int size = voices.get(voice).read().size();
        return size > 1000 ? MANY : size;
    }

    int stuck(int voice) {
        return isVoice(voice) ? voices.get(voice).oracle().stuck() : BAD;
    }

    int strained(int voice, int reading) {
        if (!isVoice(voice)) {
            return BAD;
        }
        int refusal = refusal(voice, reading);
        return refusal != 0 ? refusal : voices.get(voice).read().get(reading).strain();
    }

    private static int numberAt(List<Integer> all, int i) {
        return within(i, 0, all.size() - 1) ? all.get(i) : NONE;
    }

    int form(int voice, int reading, int i) {
        if (!isVoice(voice)) {
            return BAD;
        }
        int refusal = refusal(voice, reading);
        return refusal != 0 ? refusal : numberAt(voices.get(voice).read().get(reading).forms(), i);
    }

    int value(int voice, int reading, int i) {
        if (!isVoice(voice)) {
            return BAD;
        }
        int refusal = refusal(voice, reading);
        return refusal != 0 ? refusal : numberAt(voices.get(voice).read().get(reading).values(), i);
    }

    int pick(int voice, int reading) {
        if (!isVoice(voice)) {
            return BAD;
        }
        int refusal = refusal(voice, reading), before = voices.get(voice).picked;
        if (refusal != 0) {
            return refusal;
        }
        voices.get(voice).picked = reading;
        return before;
    }

    long time(int voice, int i, int part) {
        if (!isVoice(voice) || !within(part, 0, 1)) {
            return BAD;
        }
        if (refusal(voice) != 0) {
            return refusal(voice);
        }
        if (!within(i, 0, voices.get(voice).row.size())) {
            return NONE;
        }
        Fraction begins = voices.get(voice).begins(i);
        return (part == 0 ? begins.up() : begins.down()).longValueExact();
    }

    int at(int voice, int up, int down) {
        if (!isVoice(voice) || up < 0 || down < 1) {
            return BAD;
        }
        if (refusal(voice) != 0) {
            return refusal(voice);
        }
        Voice v = voices.get(voice);
        Fraction when = Fraction.of(up, down);
        for (int i = 0; i < v.row.size(); i++) {
            boolean lasts = v.begins(i).compare(when) <= 0 && when.compare(v.begins(i + 1)) < 0;
            if (v.row.get(i).sort() != 3 && lasts) {
                return i;
            }
        }
        return NONE;
    }

    int together() {
        Set<Fraction> ends = new HashSet<>();
        Set<Integer> refusals = new HashSet<>();
        for (int v = 0; v < voices.size(); v++) {
            refusals.add(refusal(v));
            if (refusal(v) == 0) {
                ends.add(voices.get(v).begins(voices.get(v).row.size()));
            }
        }
        return refusals.contains(MANY) ? MANY : refusals.contains(NONE) || ends.size() > 1 ? 0 : 1;
    }

    private static Map<Fraction, Integer> notesOf(Voice v) {
        Map<Fraction, Integer> all = new HashMap<>();
        for (int i = 0; i < v.row.size(); i++) {
            if (v.row.get(i).sort() == 1) {
                all.put(v.begins(i), v.row.get(i).pitch());
            }
        }
        return all;
    }

    int meet(int a, int b, int what) {
        if (!isVoice(a) || !isVoice(b) || !within(what, 0, 1)) {
            return BAD;
        }
        Set<Integer> refusals = new HashSet<>(List.of(refusal(a)));
        refusals.add(refusal(b));
        if (refusals.contains(MANY) || refusals.contains(NONE)) {
            return refusals.contains(MANY) ? MANY : NONE;
        }
        Map<Fraction, Integer> ones = notesOf(voices.get(a)), others = notesOf(voices.get(b));
        ones.keySet().retainAll(others.keySet());
        int sweet = 0;
        for (Fraction when : ones.keySet()) {
            int apart = Math.max(ones.get(when), others.get(when)) - Math.min(ones.get(when), others.get(when));
            sweet += Set.of(0, 2, 4, 5).contains(apart % 7) ? 1 : 0;
        }
        return what == 0 ? ones.size() : sweet;
    }

    int canon(int voice, int how, int behind, int higher) {
        if (!isVoice(voice) || !within(how, 0, 7) || !within(behind, 0, 100000) || !within(higher, -40, 40)) {
            return BAD;
        }
        if (refusal(voice) != 0) {
            return refusal(voice);
        }
        if (followers.size() == 6) {
            return FULL;
        }
        followers.add(followedBy(voices.get(voice), how, behind, higher));
        return followers.size() - 1;
    }

    private static List<Followed> followedBy(Voice v, int how, int behind, int higher) {
        List<Integer> order = new ArrayList<>();
        for (int i = 0; i < v.row.size(); i++) {
            if (v.row.get(i).sort() != 3) {
                order.add(i);
            }
        }
        if ((how & 1) != 0) {
            Collections.reverse(order);
        }
        int first = 0;
        for (int j = order.size() - 1; j >= 0; j--) {
            Symbol s = v.row.get(order.get(j));
            first = s.sort() == 1 ? s.pitch() : first;
        }
        List<Followed> all = new ArrayList<>();
        Fraction now = Fraction.of(behind, 1);
        for (int i : order) {
            int pitch = v.row.get(i).pitch();
            pitch = ((how & 2) != 0 ? 2 * first - pitch : pitch) + higher;
            Fraction lasts = (how & 4) != 0 ? v.lasts(i).plus(v.lasts(i)) : v.lasts(i);
            all.add(new Followed(v.row.get(i).sort() == 2 ? 1000 : pitch, now, lasts));
            now = now.plus(lasts);
        }
        return all;
    }

    long follower(int f, int i, int what) {
        if (!within(f, 0, followers.size() - 1) || !within(what, 0, 4)) {
            return BAD;
        }
        if (!within(i, 0, followers.get(f).size() - 1)) {
            return NONE;
        }
        Followed one = followers.get(f).get(i);
        switch (what) {
            case 0: return one.pitch();
            case 1: return one.begins().up().longValueExact();
            case 2: return one.begins().down().longValueExact();
            case 3: return one.lasts().up().longValueExact();
            default: return one.lasts().down().longValueExact();
        }
    }

    int write(int sign, int n, int a, int b, int c) {
        if (!within(sign, 0, 15) || !within(n, 1, 3)) {
            return BAD;
        }
        List<Integer> values = List.of(a, b, c).subList(0, n);
        if (Collections.min(values) < 1) {
            return BAD;
        }
        List<Symbol> row = WrittenRows.of(sign, n).get(values);
        written = row == null ? written : row;
        return row == null ? NONE : row.size();
    }

    int written(int i) {
        if (!within(i, 0, written.size() - 1)) {
            return NONE;
        }
        return written.get(i).sort() == 3 ? 7 : written.get(i).kind();
    }

    int count(int what) {
        int symbols = 0;
        for (Voice v : voices) {
            symbols += v.row.size();
        }
        return within(what, 0, 2) ? List.of(voices.size(), followers.size(), symbols).get(what) : BAD;
    }
}
