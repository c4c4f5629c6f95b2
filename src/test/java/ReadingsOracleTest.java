import java.math.BigInteger;
import java.util.ArrayList;
import java.util.HashMap;
import java.util.List;
import java.util.Map;
import java.util.Random;

/**
 * Promises 11 to 24 against a second, slow way to the same answers: all readings are made as the
 * document words them, sorted as it says, and times are sums of big fractions.
 */
public final class ReadingsOracleTest {
    private static final int TOO_MANY = 6000;
    private static int wrong = 0, compared = 0, many = 0, unread = 0, copies = 0;

    private static void due(String call, long got, long want) {
        compared++;
        if (got != want) {
            wrong++;
            if (wrong < 40) {
                System.out.println(call + " answered " + got + ", due is " + want);
            }
        }
    }

    /** A symbol: sort 1 note, 2 rest, 3 dot. */
    private record Symbol(int sort, int kind, int pitch, boolean coloured) {
        boolean isPlain(int k) {
            return sort == 1 && kind == k && !coloured;
        }

        boolean isColoured(int k) {
            return sort == 1 && kind == k && coloured;
        }
    }

    /** Something that was read: where it ends, its forms, its values. */
    private record Part(int end, List<Integer> forms, List<Integer> values) {
        Part then(Part more) {
            return new Part(more.end, joined(forms, more.forms), joined(values, more.values));
        }

        Part under(int form) {
            return new Part(end, joined(List.of(form), forms), values);
        }

        int strain() {
            int sum = 0;
            for (int f : forms) {
                sum += f == 7 || f == 12 ? 1 : f == 8 ? 2 : f == 9 ? 3 : 0;
            }
            return sum;
        }
    }

    private static List<Integer> joined(List<Integer> a, List<Integer> b) {
        List<Integer> all = new ArrayList<>(a);
        all.addAll(b);
        return all;
    }

    private static final class TooMany extends RuntimeException {
        private static final long serialVersionUID = 1L;
    }

    private static final class Oracle {
        final int sign;
        final List<Symbol> row;
        final Map<String, List<Part>> known = new HashMap<>();

        Oracle(int sign, List<Symbol> row) {
            this.sign = sign;
            this.row = row;
        }

        boolean perfect(int k) {
            return k < 4 && (sign & 1 << k) != 0;
        }

        int full(int k) {
            return k == 6 ? 3 : (perfect(k) ? 3 : 2) * full(k + 1);
        }

        int ground() {
            for (int k = 0; k < 4; k++) {
                if (perfect(k)) {
                    return k;
                }
            }
            return 4;
        }

        boolean dotAt(int p) {
            return p < row.size() && row.get(p).sort == 3;
        }

        int nextKind(int p) {
            int q = p;
            while (q < row.size() && row.get(q).sort == 3) {
                q++;
            }
            return q < row.size() ? row.get(q).kind : -1;
        }

        List<Part> plain(int k, int p, int worth, boolean dotted) {
            List<Part> all = new ArrayList<>();
            if (p < row.size() && row.get(p).isPlain(k)) {
                if (!dotted) {
                    all.add(new Part(p + 1, List.of(), List.of(worth)));
                } else if (dotAt(p + 1)) {
                    all.add(new Part(p + 2, List.of(), List.of(worth, 0)));
                }
            }
            return all;
        }

        List<Part> under(int form, List<Part> parts) {
            List<Part> all = new ArrayList<>();
            for (Part x : parts) {
                all.add(x.under(form));
            }
            return guarded(all);
        }

        static List<Part> guarded(List<Part> all) {
            if (all.size() > TOO_MANY) {
                throw new TooMany();
            }
            return all;
        }

        List<Part> thenUnit(List<Part> firsts, int k) {
            List<Part> all = new ArrayList<>();
            for (Part x : firsts) {
                for (Part y : unit(k, x.end)) {
                    all.add(x.then(y));
                }
            }
            return guarded(all);
        }

        List<Part> thenPair(List<Part> firsts, int k) {
            List<Part> all = new ArrayList<>();
            for (Part x : firsts) {
                for (Part y : pair(k, x.end)) {
                    all.add(x.then(y));
                }
            }
            return guarded(all);
        }

        List<Part> thenThird(List<Part> firsts, int k) {
            List<Part> all = new ArrayList<>();
            for (Part x : firsts) {
                for (Part y : third(k, x.end)) {
                    all.add(x.then(y));
                }
            }
            return guarded(all);
        }

        List<Part> thenPlain(List<Part> firsts, int k, int worth, boolean dotted) {
            List<Part> all = new ArrayList<>();
            for (Part x : firsts) {
                for (Part y : plain(k, x.end, worth, dotted)) {
                    all.add(x.then(y));
                }
            }
            return guarded(all);
        }

        List<Part> unit(int k, int p) {
            String key = "u" + k + "," + p;
            if (!known.containsKey(key)) {
                known.put(key, k > 6 ? List.of() : makeUnit(k, p));
            }
            return known.get(key);
        }

        private List<Part> makeUnit(int k, int p) {
            List<Part> base = new ArrayList<>(under(1, plain(k, p, full(k), false)));
            if (p < row.size() && row.get(p).sort == 2 && row.get(p).kind == k) {
                base.add(new Part(p + 1, List.of(2), List.of(full(k))));
            }
            if (!perfect(k)) {
                if (k < 6) {
                    base.addAll(under(4, thenUnit(unit(k + 1, p), k + 1)));
                    base.addAll(under(5, pair(k + 1, p)));
                }
                return guarded(base);
            }
            int two = 2 * full(k + 1);
            base.addAll(under(6, thenUnit(thenUnit(unit(k + 1, p), k + 1), k + 1)));
            base.addAll(under(7, thenUnit(plain(k, p, two, false), k + 1)));
            for (Part x : under(8, thenPlain(unit(k + 1, p), k + 1, two, false))) {
                int next = nextKind(x.end);
                if (next >= 0 && next <= k) {
                    base.add(x);
                }
            }
            for (Part x : under(9, thenPlain(unit(k + 1, p), k, two, false))) {
                if (nextKind(x.end) != k) {
                    base.add(x);
                }
            }
            base.addAll(under(10, thenPair(unit(k + 1, p), k + 1)));
            base.addAll(under(11, thenUnit(pair(k + 1, p), k + 1)));
            List<Part> all = new ArrayList<>(base);
            for (Part x : base) {
                if (dotAt(x.end)) {
                    all.add(x.then(new Part(x.end + 1, List.of(12), List.of(0))));
                }
            }
            all.addAll(under(3, plain(k, p, full(k), true)));
            return guarded(all);
        }

        List<Part> pair(int k, int p) {
            String key = "p" + k + "," + p;
            if (!known.containsKey(key)) {
                known.put(key, k > 6 ? List.of() : makePair(k, p));
            }
            return known.get(key);
        }

        private List<Part> makePair(int k, int p) {
            List<Part> all = new ArrayList<>(thirds(k, p));
            if (!perfect(k) && k < 6) {
                int three = 3 * full(k + 1);
                all.addAll(under(13, thenUnit(plain(k, p, three, true), k + 1)));
                all.addAll(under(14, thenPlain(unit(k + 1, p), k, three, true)));
            }
            return guarded(all);
        }

        List<Part> thirds(int k, int p) {
            return under(15, thenThird(thenThird(third(k, p), k), k));
        }

        List<Part> third(int k, int p) {
            List<Part> all = new ArrayList<>();
            if (p < row.size() && row.get(p).isColoured(k)) {
                all.add(new Part(p + 1, List.of(16), List.of(2 * full(k) / 3)));
            }
            if (k < 6 && p + 1 < row.size() && row.get(p).isColoured(k + 1) && row.get(p + 1).isColoured(k + 1)) {
                all.add(new Part(p + 2, List.of(17), List.of(full(k) / 3, full(k) / 3)));
            }
            return all;
        }

        List<Part> item(int p) {
            List<Part> all = new ArrayList<>(unit(ground(), p));
            all.addAll(pair(ground(), p));
            for (int k = 0; k < ground(); k++) {
                all.addAll(thirds(k, p));
                all.addAll(under(1, plain(k, p, full(k), false)));
                all.addAll(under(18, plain(k, p, full(k) * 3 / 2, true)));
                if (p < row.size() && row.get(p).sort == 2 && row.get(p).kind == k) {
                    all.add(new Part(p + 1, List.of(2), List.of(full(k))));
                }
            }
            return guarded(all);
        }

        /** All rows of items from p on that end with the row. */
        List<Part> rest(int p) {
            String key = "r" + p;
            if (!known.containsKey(key)) {
                List<Part> all = new ArrayList<>();
                if (p == row.size()) {
                    all.add(new Part(p, List.of(), List.of()));
                } else {
                    for (Part x : item(p)) {
                        for (Part y : rest(x.end)) {
                            all.add(x.then(y));
                        }
                        guarded(all);
                    }
                }
                known.put(key, all);
            }
            return known.get(key);
        }

        List<Part> readings() {
            List<Part> all = new ArrayList<>(rest(0));
            all.sort((x, y) -> {
                if (x.strain() != y.strain()) {
                    return Integer.compare(x.strain(), y.strain());
                }
                for (int i = 0; i < Math.min(x.forms.size(), y.forms.size()); i++) {
                    if (!x.forms.get(i).equals(y.forms.get(i))) {
                        return Integer.compare(x.forms.get(i), y.forms.get(i));
                    }
                }
                return Integer.compare(x.forms.size(), y.forms.size());
            });
            return all;
        }

        int stuck() {
            boolean[] reached = new boolean[row.size() + 1];
            reached[0] = true;
            int most = 0;
            for (int p = 0; p <= row.size(); p++) {
                if (reached[p]) {
                    most = p;
                    for (Part x : item(p)) {
                        reached[x.end] = true;
                    }
                }
            }
            return most == row.size() ? -1 : most;
        }
    }

    // ---- rows to read

    private static Symbol note(Random r, int k, boolean coloured) {
        return new Symbol(1, k, r.nextInt(81) - 40, coloured);
    }

    private static final Symbol DOT = new Symbol(3, -1, -1, false);

    private static void growUnit(Random r, Oracle o, int k, List<Symbol> out, int depth) {
        int how = r.nextInt(o.perfect(k) ? 9 : 5);
        if (k == 6 || depth > 5 || how < 2) {
            out.add(r.nextInt(5) == 0 ? new Symbol(2, k, -1, false) : note(r, k, false));
        } else if (!o.perfect(k)) {
            if (how < 4) {
                growUnit(r, o, k + 1, out, depth + 1);
                growUnit(r, o, k + 1, out, depth + 1);
            } else {
                growPair(r, o, k + 1, out, depth + 1);
            }
        } else {
            growPerfect(r, o, k, out, depth, how);
        }
        if (o.perfect(k) && out.get(out.size() - 1).sort != 3 && r.nextInt(6) == 0) {
            out.add(DOT);
        }
    }

    private static void growPerfect(Random r, Oracle o, int k, List<Symbol> out, int depth, int how) {
        if (how == 2) {
            out.add(note(r, k, false));
            growUnit(r, o, k + 1, out, depth + 1);
        } else if (how == 3 || how == 4) {
            growUnit(r, o, k + 1, out, depth + 1);
            out.add(note(r, how == 3 ? k + 1 : k, false));
        } else if (how == 5) {
            growUnit(r, o, k + 1, out, depth + 1);
            growPair(r, o, k + 1, out, depth + 1);
        } else if (how == 6) {
            growPair(r, o, k + 1, out, depth + 1);
            growUnit(r, o, k + 1, out, depth + 1);
        } else {
            for (int i = 0; i < 3; i++) {
                growUnit(r, o, k + 1, out, depth + 1);
            }
        }
    }

    private static void growPair(Random r, Oracle o, int k, List<Symbol> out, int depth) {
        int how = r.nextInt(3);
        if (how == 0 || k == 6 || o.perfect(k)) {
            for (int i = 0; i < 3; i++) {
                if (k < 6 && r.nextBoolean()) {
                    out.add(note(r, k + 1, true));
                    out.add(note(r, k + 1, true));
                } else {
                    out.add(note(r, k, true));
                }
            }
        } else if (how == 1) {
            out.add(note(r, k, false));
            out.add(DOT);
            growUnit(r, o, k + 1, out, depth + 1);
        } else {
            growUnit(r, o, k + 1, out, depth + 1);
            out.add(note(r, k, false));
            out.add(DOT);
        }
    }

    private static List<Symbol> grown(Random r, int sign) {
        Oracle o = new Oracle(sign, List.of());
        int g = o.ground(), want = r.nextInt(25);
        List<Symbol> all = new ArrayList<>();
        for (int tries = 0; tries < 60; tries++) {
            List<Symbol> more = new ArrayList<>();
            int how = r.nextInt(8);
            if (how < 5) {
                growUnit(r, o, g, more, 0);
            } else if (how == 5) {
                growPair(r, o, g, more, 0);
            } else if (g > 0) {
                int k = r.nextInt(g);
                if (r.nextInt(4) == 0) {
                    growPair(r, new Oracle(15, List.of()), k, more, 0);
                } else {
                    more.add(note(r, k, false));
                    if (r.nextInt(3) == 0) {
                        more.add(DOT);
                    }
                }
            }
            if (all.size() + more.size() <= want) {
                all.addAll(more);
            }
        }
        return all;
    }

    private static List<Symbol> spoiled(Random r, List<Symbol> row) {
        List<Symbol> all = new ArrayList<>();
        for (Symbol s : row) {
            int how = r.nextInt(20);
            if (how == 0) {
                all.add(note(r, r.nextInt(7), r.nextBoolean()));
            } else if (how == 1) {
                all.add(new Symbol(2, r.nextInt(7), -1, false));
            } else if (how != 2) {
                all.add(s);
            }
        }
        return lawfulDots(all);
    }

    private static List<Symbol> anyhow(Random r) {
        List<Symbol> all = new ArrayList<>();
        int size = r.nextInt(13), from = r.nextInt(6), width = 1 + r.nextInt(3);
        for (int i = 0; i < size; i++) {
            int how = r.nextInt(10);
            int k = Math.min(6, from + r.nextInt(width));
            all.add(how == 0 ? DOT : how == 1 ? new Symbol(2, k, -1, false) : note(r, k, how == 2));
        }
        return lawfulDots(all);
    }

    /** Dots and notes of the ground and the kind below: read in very many ways, if in any. */
    private static List<Symbol> dense(Random r, int sign) {
        int g = new Oracle(sign, List.of()).ground();
        List<Symbol> all = new ArrayList<>();
        int size = 6 + r.nextInt(14);
        for (int i = 0; i < size; i++) {
            int how = r.nextInt(8);
            all.add(note(r, how == 0 ? g + 1 : g, false));
            if (how != 1) {
                all.add(DOT);
            }
            if (how == 2) {
                all.add(note(r, g + 1, false));
            }
        }
        return lawfulDots(all);
    }

    private static List<Symbol> lawfulDots(List<Symbol> row) {
        List<Symbol> all = new ArrayList<>();
        for (Symbol s : row) {
            if (all.size() < 24 && (s.sort != 3 || !all.isEmpty() && all.get(all.size() - 1).sort != 3)) {
                all.add(s);
            }
        }
        return all;
    }

    // ---- comparisons

    private static void put(MensuralRows x, int voice, Symbol s) {
        if (s.sort == 1) {
            x.note(voice, s.kind, s.pitch, s.coloured);
        } else if (s.sort == 2) {
            x.rest(voice, s.kind);
        } else {
            x.dot(voice);
        }
    }

    private static String shown(int sign, List<Symbol> row) {
        StringBuilder b = new StringBuilder("sign " + sign + ":");
        for (Symbol s : row) {
            b.append(s.sort == 3 ? " ." : " " + (s.sort == 2 ? "r" : s.coloured ? "c" : "n") + s.kind);
        }
        return b + " ";
    }

    private static void compareReadings(int sign, List<Symbol> row) {
        MensuralRows x = new MensuralRows();
        x.voice(sign);
        for (Symbol s : row) {
            put(x, 0, s);
        }
        String name = shown(sign, row);
        Oracle o = new Oracle(sign, row);
        List<Part> all;
        try {
            due(name + "stuck", x.stuck(0), o.stuck());
            all = o.readings();
        } catch (TooMany e) {
            // Parts of the row alone are read in very many ways: the row may have no reading at all, though.
            return;
        }
        if (all.size() > 1000) {
            many++;
            due(name + "readings", x.readings(0), MensuralRows.MANY);
            due(name + "strained", x.strained(0, 0), MensuralRows.MANY);
            due(name + "value", x.value(0, 0, 0), MensuralRows.MANY);
            due(name + "form", x.form(0, 0, 0), MensuralRows.MANY);
            due(name + "pick", x.pick(0, 0), MensuralRows.MANY);
            due(name + "time", x.time(0, 0, 0), MensuralRows.MANY);
            due(name + "at", x.at(0, 0, 1), MensuralRows.MANY);
            due(name + "together", x.together(), MensuralRows.MANY);
            due(name + "meet", x.meet(0, 0, 0), MensuralRows.MANY);
            due(name + "canon", x.canon(0, 0, 0, 0), MensuralRows.MANY);
            return;
        }
        if (all.isEmpty()) {
            unread++;
        }
        due(name + "readings", x.readings(0), all.size());
        for (int n = 0; n < all.size(); n++) {
            Part p = all.get(n);
            if (n > 0 && p.forms.equals(all.get(n - 1).forms)) {
                copies++;
            }
            due(name + "strained " + n, x.strained(0, n), p.strain());
            for (int i = 0; i < p.forms.size(); i++) {
                due(name + "form " + n + ", " + i, x.form(0, n, i), p.forms.get(i));
            }
            due(name + "form " + n + ", end", x.form(0, n, p.forms.size()), MensuralRows.NONE);
            for (int i = 0; i < row.size(); i++) {
                due(name + "value " + n + ", " + i, x.value(0, n, i), p.values.get(i));
            }
        }
        due(name + "strained, too far", x.strained(0, all.size()), MensuralRows.NONE);
    }

    // ---- times

    private record Fraction(BigInteger up, BigInteger down) {
        static Fraction of(long up, long down) {
            BigInteger g = BigInteger.valueOf(up).gcd(BigInteger.valueOf(down));
            return new Fraction(BigInteger.valueOf(up).divide(g), BigInteger.valueOf(down).divide(g));
        }

        Fraction plus(Fraction o) {
            BigInteger u = up.multiply(o.down).add(o.up.multiply(down)), d = down.multiply(o.down), g = u.gcd(d);
            return new Fraction(u.divide(g), d.divide(g));
        }

        int compare(Fraction o) {
            return up.multiply(o.down).compareTo(o.up.multiply(down));
        }
    }

    private static final class Song {
        final int sign;
        final List<Symbol> row = new ArrayList<>();
        final List<int[]> proportions = new ArrayList<>();
        List<Part> readings;
        int picked;

        Song(int sign) {
            this.sign = sign;
        }

        Fraction lasts(int i) {
            return Fraction.of((long) readings.get(picked).values.get(i) * proportions.get(i)[1], proportions.get(i)[0]);
        }

        Fraction begins(int i) {
            Fraction sum = Fraction.of(0, 1);
            for (int j = 0; j < i; j++) {
                sum = sum.plus(lasts(j));
            }
            return sum;
        }
    }

    private static Song makeSong(Random r, MensuralRows x, int voice) {
        Song song = new Song(r.nextInt(16));
        x.voice(song.sign);
        int up = 1, down = 1;
        for (Symbol s : r.nextInt(8) == 0 ? anyhow(r) : grown(r, song.sign)) {
            if (r.nextInt(4) == 0) {
                int a = 1 + r.nextInt(9), b = 1 + r.nextInt(9);
                int g = BigInteger.valueOf((long) up * a).gcd(BigInteger.valueOf((long) down * b)).intValue();
                int newUp = up * a / g, newDown = down * b / g;
                boolean fits = newUp <= 1000 && newDown <= 1000;
                due("proportion", x.proportion(voice, a, b), fits ? 1 : MensuralRows.FULL);
                up = fits ? newUp : up;
                down = fits ? newDown : down;
            }
            put(x, voice, s);
            song.row.add(s);
            song.proportions.add(new int[] {up, down});
        }
        due("told up", x.told(voice, 3), up);
        due("told down", x.told(voice, 4), down);
        try {
            song.readings = new Oracle(song.sign, song.row).readings();
        } catch (TooMany e) {
            return null;
        }
        if (song.readings.size() > 1000) {
            return null;
        }
        if (song.readings.size() > 1) {
            song.picked = r.nextInt(song.readings.size());
            due("pick", x.pick(voice, song.picked), 0);
            due("told picked", x.told(voice, 5), song.picked);
        }
        return song;
    }

    private static void compareTimes(Random r, MensuralRows x, int voice, Song song) {
        int n = song.row.size();
        if (song.readings.isEmpty()) {
            due("time", x.time(voice, 0, 0), MensuralRows.NONE);
            due("at", x.at(voice, 0, 1), MensuralRows.NONE);
            due("canon", x.canon(voice, 0, 0, 0), MensuralRows.NONE);
            return;
        }
        for (int i = 0; i <= n; i++) {
            due("time up " + i, x.time(voice, i, 0), song.begins(i).up.longValueExact());
            due("time down " + i, x.time(voice, i, 1), song.begins(i).down.longValueExact());
        }
        for (int tries = 0; tries < 12; tries++) {
            int up = r.nextInt(3000), down = 1 + r.nextInt(7);
            if (tries > 6 && n > 0) {
                Fraction f = song.begins(r.nextInt(n + 1));
                if (f.up.bitLength() < 31 && f.down.bitLength() < 31) {
                    up = Math.max(0, f.up.intValue() - r.nextInt(2));
                    down = f.down.intValue();
                }
            }
            int want = -1;
            for (int i = 0; i < n; i++) {
                Fraction when = Fraction.of(up, down);
                if (song.row.get(i).sort != 3 && song.begins(i).compare(when) <= 0
                        && song.begins(i + 1).compare(when) > 0) {
                    want = i;
                }
            }
            due("at " + up + "/" + down, x.at(voice, up, down), want);
        }
    }

    private static void compareFollower(Random r, MensuralRows x, int voice, Song song) {
        if (song.readings.isEmpty() || x.count(1) >= 6) {
            return;
        }
        int how = r.nextInt(8), behind = r.nextInt(100001), higher = r.nextInt(81) - 40;
        int f = x.canon(voice, how, behind, higher);
        due("canon", f, x.count(1) - 1);
        List<Integer> order = new ArrayList<>();
        for (int i = 0; i < song.row.size(); i++) {
            if (song.row.get(i).sort != 3) {
                order.add((how & 1) == 0 ? order.size() : 0, i);
            }
        }
        Integer pivot = null;
        Fraction now = Fraction.of(behind, 1);
        for (int j = 0; j < order.size(); j++) {
            Symbol s = song.row.get(order.get(j));
            pivot = pivot == null && s.sort == 1 ? Integer.valueOf(s.pitch) : pivot;
            int pitch = s.sort == 2 ? 1000 : higher + ((how & 2) == 0 ? s.pitch : 2 * pivot - s.pitch);
            Fraction lasts = song.lasts(order.get(j));
            lasts = (how & 4) == 0 ? lasts : lasts.plus(lasts);
            due("follower pitch", x.follower(f, j, 0), pitch);
            due("follower begin up", x.follower(f, j, 1), now.up.longValueExact());
            due("follower begin down", x.follower(f, j, 2), now.down.longValueExact());
            due("follower length up", x.follower(f, j, 3), lasts.up.longValueExact());
            due("follower length down", x.follower(f, j, 4), lasts.down.longValueExact());
            now = now.plus(lasts);
        }
        due("follower end", x.follower(f, order.size(), 0), MensuralRows.NONE);
    }

    private static void compareMeet(MensuralRows x, int a, Song one, int b, Song other) {
        if (one.readings.isEmpty() || other.readings.isEmpty()) {
            due("meet", x.meet(a, b, 0), MensuralRows.NONE);
            return;
        }
        int met = 0, sweet = 0;
        for (int i = 0; i < one.row.size(); i++) {
            for (int j = 0; j < other.row.size(); j++) {
                if (one.row.get(i).sort == 1 && other.row.get(j).sort == 1
                        && one.begins(i).equals(other.begins(j))) {
                    met++;
                    int high = Math.max(one.row.get(i).pitch, other.row.get(j).pitch);
                    int low = Math.min(one.row.get(i).pitch, other.row.get(j).pitch);
                    sweet += List.of(0, 2, 4, 5).contains((high - low) % 7) ? 1 : 0;
                }
            }
        }
        due("meet 0", x.meet(a, b, 0), met);
        due("meet 1", x.meet(a, b, 1), sweet);
    }

    private static void compareSongs(Random r) {
        MensuralRows x = new MensuralRows();
        List<Song> songs = new ArrayList<>();
        int voices = 1 + r.nextInt(3);
        for (int v = 0; v < voices; v++) {
            Song song = makeSong(r, x, v);
            if (song == null) {
                return;
            }
            songs.add(song);
        }
        boolean together = true;
        for (int v = 0; v < voices; v++) {
            Song song = songs.get(v);
            compareTimes(r, x, v, song);
            compareFollower(r, x, v, song);
            for (int w = 0; w < voices; w++) {
                compareMeet(x, v, song, w, songs.get(w));
            }
            together = together && !song.readings.isEmpty() && !songs.get(0).readings.isEmpty()
                    && song.begins(song.row.size()).equals(songs.get(0).begins(songs.get(0).row.size()));
        }
        due("together", x.together(), together ? 1 : 0);
    }

    /** Goes over 1 to 1, one small factor at a time, so that no step is refused. */
    private static void bend(MensuralRows x, int up, int down) {
        int[] from = {x.told(0, 3), x.told(0, 4)}, to = {up, down};
        for (int f = 2; f < 9; f++) {
            while (from[0] % f == 0 || from[1] % f == 0) {
                boolean first = from[0] % f == 0;
                due("bend", x.proportion(0, first ? 1 : f, first ? f : 1), 1);
                from[first ? 0 : 1] /= f;
            }
        }
        for (int f = 2; f < 9; f++) {
            while (to[0] % f == 0 || to[1] % f == 0) {
                boolean first = to[0] % f == 0;
                due("bend", x.proportion(0, first ? f : 1, first ? 1 : f), 1);
                to[first ? 0 : 1] /= f;
            }
        }
        due("bent up", x.told(0, 3), up);
        due("bent down", x.told(0, 4), down);
    }

    /** Denominators without common factors: the greatest numbers that times can have. */
    private static void compareGreatTimes() {
        MensuralRows x = new MensuralRows();
        Song song = new Song(14);
        x.voice(14);
        int[][] proportions = {{512, 945}, {729, 1000}, {625, 972}, {343, 1000}, {1, 1000}, {1, 1000}};
        for (int i = 0; i < 12; i++) {
            int[] now = proportions[i % 6];
            bend(x, now[0], now[1]);
            for (Symbol s : List.of(new Symbol(1, 0, i, false), DOT)) {
                put(x, 0, s);
                song.row.add(s);
                song.proportions.add(now);
            }
        }
        song.readings = new Oracle(14, song.row).readings();
        compareTimes(new Random(1), x, 0, song);
        Random r = new Random(2);
        for (int i = 0; i < 6; i++) {
            compareFollower(r, x, 0, song);
        }
    }

    // ---- rows for values

    private static List<Symbol> rowOf(int number, int n) {
        List<Symbol> row = new ArrayList<>();
        int left = number;
        for (int i = 0; i < n; i++) {
            int choice = left / (int) Math.pow(14, n - 1 - i) % 14;
            row.add(new Symbol(1, choice / 2, 0, false));
            if (choice % 2 == 1) {
                row.add(DOT);
            }
        }
        return row;
    }

    private static void compareWriting(int sign, int n, Random r) {
        Map<List<Integer>, List<Symbol>> best = new HashMap<>();
        for (int number = 0; number < Math.pow(14, n); number++) {
            List<Symbol> row = rowOf(number, n);
            List<Part> all = new Oracle(sign, row).readings();
            if (!all.isEmpty()) {
                List<Integer> values = new ArrayList<>();
                for (int i = 0; i < row.size(); i++) {
                    if (row.get(i).sort == 1) {
                        values.add(all.get(0).values.get(i));
                    }
                }
                if (!best.containsKey(values) || best.get(values).size() > row.size()) {
                    best.put(values, row);
                }
            }
        }
        MensuralRows x = new MensuralRows();
        for (Map.Entry<List<Integer>, List<Symbol>> e : best.entrySet()) {
            compareOneWriting(x, sign, n, e.getKey(), e.getValue());
        }
        List<List<Integer>> keys = new ArrayList<>(best.keySet());
        for (int tries = 0; tries < 200 && !keys.isEmpty(); tries++) {
            List<Integer> values = new ArrayList<>();
            for (int i = 0; i < n; i++) {
                values.add(keys.get(r.nextInt(keys.size())).get(i) + (r.nextInt(9) == 0 ? 3 : 0));
            }
            compareOneWriting(x, sign, n, values, best.get(values));
        }
    }

    private static void compareOneWriting(MensuralRows x, int sign, int n, List<Integer> v, List<Symbol> row) {
        String name = "write(" + sign + ", " + v + ")";
        int got = x.write(sign, n, v.get(0), n > 1 ? v.get(1) : 0, n > 2 ? v.get(2) : 0);
        due(name, got, row == null ? MensuralRows.NONE : row.size());
        for (int i = 0; row != null && i < row.size(); i++) {
            due(name + " written " + i, x.written(i), row.get(i).sort == 3 ? 7 : row.get(i).kind);
        }
        if (row != null) {
            due(name + " written end", x.written(row.size()), MensuralRows.NONE);
        }
    }

    public static void main(String[] args) {
        Random r = new Random(20261115L);
        for (int turn = 0; turn < 4000; turn++) {
            int sign = turn % 16;
            List<Symbol> row = grown(r, sign);
            compareReadings(sign, row);
            compareReadings(sign, spoiled(r, row));
            compareReadings(sign, anyhow(r));
            if (turn % 4 == 0) {
                int dotted = 1 + r.nextInt(15);
                compareReadings(dotted, dense(r, dotted));
            }
        }
        System.out.println(many + " rows were MANY, " + unread + " had no reading, " + copies
                + " readings told what the one before told");
        for (int turn = 0; turn < 1500; turn++) {
            compareSongs(r);
        }
        compareGreatTimes();
        for (int sign = 0; sign < 16; sign++) {
            for (int n = 1; n <= 3; n++) {
                compareWriting(sign, n, r);
            }
        }
        if (many < 10 || unread < 100 || copies < 10) {
            wrong++;
            System.out.println("the rows are too much alike");
        }
        System.out.println(compared + " answers compared, " + wrong + " wrong");
        if (wrong != 0) {
            System.exit(1);
        }
    }
}
