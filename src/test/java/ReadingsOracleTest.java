import java.math.BigInteger;
import java.util.ArrayList;
import java.util.List;
import java.util.Map;
import java.util.Random;

/**
 * Promises 11 to 24 against a second, slow way to the same answers: all readings are made as the
 * document words them, sorted as it says, and times are sums of big fractions.
 */
public final class ReadingsOracleTest {
    private static int wrong = 0, compared = 0, many = 0, unread = 0, copies = 0;

    private static void due(String call, long got, long want) {
        compared++;
        if (got != want) {
            wrong++;
            if (wrong < 40) {
                System.out.println(call + " answered " + got + ", due is " + want);
            }
        }
    }

    private static void put(MensuralRows x, int voice, Symbol s) {
        if (s.sort() == 1) {
            x.note(voice, s.kind(), s.pitch(), s.coloured());
        } else if (s.sort() == 2) {
            x.rest(voice, s.kind());
        } else {
            x.dot(voice);
        }
    }

    private static String shown(int sign, List<Symbol> row) {
        StringBuilder b = new StringBuilder("sign " + sign + ":");
        for (Symbol s : row) {
            b.append(s.sort() == 3 ? " ." : " " + (s.sort() == 2 ? "r" : s.coloured() ? "c" : "n") + s.kind());
        }
        return b + " ";
    }

    private static void compareReadings(int sign, List<Symbol> row) {
        MensuralRows x = new MensuralRows();
        x.voice(sign);
        for (Symbol s : row) {
            put(x, 0, s);
        }
        String name = shown(sign, row);
        Oracle o = new Oracle(sign, row);
        List<Part> all;
        try {
            due(name + "stuck", x.stuck(0), o.stuck());
            all = o.readings();
        } catch (TooMany e) {
            // Parts of the row alone are read in very many ways: the row may have no reading at all, though.
            return;
        }
        if (all.size() > 1000) {
            many++;
            due(name + "readings", x.readings(0), MensuralRows.MANY);
            due(name + "strained", x.strained(0, 0), MensuralRows.MANY);
            due(name + "value", x.value(0, 0, 0), MensuralRows.MANY);
            due(name + "form", x.form(0, 0, 0), MensuralRows.MANY);
            due(name + "pick", x.pick(0, 0), MensuralRows.MANY);
            due(name + "time", x.time(0, 0, 0), MensuralRows.MANY);
            due(name + "at", x.at(0, 0, 1), MensuralRows.MANY);
            due(name + "together", x.together(), MensuralRows.MANY);
            due(name + "meet", x.meet(0, 0, 0), MensuralRows.MANY);
            due(name + "canon", x.canon(0, 0, 0, 0), MensuralRows.MANY);
            return;
        }
        if (all.isEmpty()) {
            unread++;
        }
        due(name + "readings", x.readings(0), all.size());
        for (int n = 0; n < all.size(); n++) {
            Part p = all.get(n);
            if (n > 0 && p.forms().equals(all.get(n - 1).forms())) {
                copies++;
            }
            due(name + "strained " + n, x.strained(0, n), p.strain());
            for (int i = 0; i < p.forms().size(); i++) {
                due(name + "form " + n + ", " + i, x.form(0, n, i), p.forms().get(i));
            }
            due(name + "form " + n + ", end", x.form(0, n, p.forms().size()), MensuralRows.NONE);
            for (int i = 0; i < row.size(); i++) {
                due(name + "value " + n + ", " + i, x.value(0, n, i), p.values().get(i));
            }
        }
        due(name + "strained, too far", x.strained(0, all.size()), MensuralRows.NONE);
    }

    // ---- times

    private static final class Song {
        final int sign;
        final List<Symbol> row = new ArrayList<>();
        final List<int[]> proportions = new ArrayList<>();
        List<Part> readings;
        int picked;

        Song(int sign) {
            this.sign = sign;
        }

        Fraction lasts(int i) {
            return Fraction.of((long) readings.get(picked).values().get(i) * proportions.get(i)[1], proportions.get(i)[0]);
        }

        Fraction begins(int i) {
            Fraction sum = Fraction.of(0, 1);
            for (int j = 0; j < i; j++) {
                sum = sum.plus(lasts(j));
            }
            return sum;
        }
    }

    private static Song makeSong(Random r, MensuralRows x, int voice) {
        Song song = new Song(r.nextInt(16));
        x.voice(song.sign);
        int up = 1, down = 1;
        for (Symbol s : r.nextInt(8) == 0 ? Rows.anyhow(r) : Rows.grown(r, song.sign)) {
            if (r.nextInt(4) == 0) {
                int a = 1 + r.nextInt(9), b = 1 + r.nextInt(9);
                int g = BigInteger.valueOf((long) up * a).gcd(BigInteger.valueOf((long) down * b)).intValue();
                int newUp = up * a / g, newDown = down * b / g;
                boolean fits = newUp <= 1000 && newDown <= 1000;
                due("proportion", x.proportion(voice, a, b), fits ? 1 : MensuralRows.FULL);
                up = fits ? newUp : up;
                down = fits ? newDown : down;
            }
            put(x, voice, s);
            song.row.add(s);
            song.proportions.add(new int[] {up, down});
        }
        due("told up", x.told(voice, 3), up);
        due("told down", x.told(voice, 4), down);
        try {
            song.readings = new Oracle(song.sign, song.row).readings();
        } catch (TooMany e) {
            return null;
        }
        if (song.readings.size() > 1000) {
            return null;
        }
        if (song.readings.size() > 1) {
            song.picked = r.nextInt(song.readings.size());
            due("pick", x.pick(voice, song.picked), 0);
            due("told picked", x.told(voice, 5), song.picked);
        }
        return song;
    }

    private static void compareTimes(Random r, MensuralRows x, int voice, Song song) {
        int n = song.row.size();
        if (song.readings.isEmpty()) {
            due("time", x.time(voice, 0, 0), MensuralRows.NONE);
            due("at", x.at(voice, 0, 1), MensuralRows.NONE);
            due("canon", x.canon(voice, 0, 0, 0), MensuralRows.NONE);
            return;
        }
        for (int i = 0; i <= n; i++) {
            due("time up " + i, x.time(voice, i, 0), song.begins(i).up().longValueExact());
            due("time down " + i, x.time(voice, i, 1), song.begins(i).down().longValueExact());
        }
        for (int tries = 0; tries < 12; tries++) {
            int up = r.nextInt(3000), down = 1 + r.nextInt(7);
            if (tries > 6 && n > 0) {
                Fraction f = song.begins(r.nextInt(n + 1));
                if (f.up().bitLength() < 31 && f.down().bitLength() < 31) {
                    up = Math.max(0, f.up().intValue() - r.nextInt(2));
                    down = f.down().intValue();
                }
            }
            int want = -1;
            for (int i = 0; i < n; i++) {
                Fraction when = Fraction.of(up, down);
                if (song.row.get(i).sort() != 3 && song.begins(i).compare(when) <= 0
                        && song.begins(i + 1).compare(when) > 0) {
                    want = i;
                }
            }
            due("at " + up + "/" + down, x.at(voice, up, down), want);
        }
    }

    private static void compareFollower(Random r, MensuralRows x, int voice, Song song) {
        if (song.readings.isEmpty() || x.count(1) >= 6) {
            return;
        }
        int how = r.nextInt(8), behind = r.nextInt(100001), higher = r.nextInt(81) - 40;
        int f = x.canon(voice, how, behind, higher);
        due("canon", f, x.count(1) - 1);
        List<Integer> order = new ArrayList<>();
        for (int i = 0; i < song.row.size(); i++) {
            if (song.row.get(i).sort() != 3) {
                order.add((how & 1) == 0 ? order.size() : 0, i);
            }
        }
        Integer pivot = null;
        Fraction now = Fraction.of(behind, 1);
        for (int j = 0; j < order.size(); j++) {
            Symbol s = song.row.get(order.get(j));
            pivot = pivot == null && s.sort() == 1 ? Integer.valueOf(s.pitch()) : pivot;
            int pitch = s.sort() == 2 ? 1000 : higher + ((how & 2) == 0 ? s.pitch() : 2 * pivot - s.pitch());
            Fraction lasts = song.lasts(order.get(j));
            lasts = (how & 4) == 0 ? lasts : lasts.plus(lasts);
            due("follower pitch", x.follower(f, j, 0), pitch);
            due("follower begin up", x.follower(f, j, 1), now.up().longValueExact());
            due("follower begin down", x.follower(f, j, 2), now.down().longValueExact());
            due("follower length up", x.follower(f, j, 3), lasts.up().longValueExact());
            due("follower length down", x.follower(f, j, 4), lasts.down().longValueExact());
            now = now.plus(lasts);
        }
        due("follower end", x.follower(f, order.size(), 0), MensuralRows.NONE);
    }

    private static void compareMeet(MensuralRows x, int a, Song one, int b, Song other) {
        if (one.readings.isEmpty() || other.readings.isEmpty()) {
            due("meet", x.meet(a, b, 0), MensuralRows.NONE);
            return;
        }
        int met = 0, sweet = 0;
        for (int i = 0; i < one.row.size(); i++) {
            for (int j = 0; j < other.row.size(); j++) {
                if (one.row.get(i).sort() == 1 && other.row.get(j).sort() == 1
                        && one.begins(i).equals(other.begins(j))) {
                    met++;
                    int high = Math.max(one.row.get(i).pitch(), other.row.get(j).pitch());
                    int low = Math.min(one.row.get(i).pitch(), other.row.get(j).pitch());
                    sweet += List.of(0, 2, 4, 5).contains((high - low) % 7) ? 1 : 0;
                }
            }
        }
        due("meet 0", x.meet(a, b, 0), met);
        due("meet 1", x.meet(a, b, 1), sweet);
    }

    private static void compareSongs(Random r) {
        MensuralRows x = new MensuralRows();
        List<Song> songs = new ArrayList<>();
        int voices = 1 + r.nextInt(3);
        for (int v = 0; v < voices; v++) {
            Song song = makeSong(r, x, v);
            if (song == null) {
                return;
            }
            songs.add(song);
        }
        boolean together = true;
        for (int v = 0; v < voices; v++) {
            Song song = songs.get(v);
            compareTimes(r, x, v, song);
            compareFollower(r, x, v, song);
            for (int w = 0; w < voices; w++) {
                compareMeet(x, v, song, w, songs.get(w));
            }
            together = together && !song.readings.isEmpty() && !songs.get(0).readings.isEmpty()
                    && song.begins(song.row.size()).equals(songs.get(0).begins(songs.get(0).row.size()));
        }
        due("together", x.together(), together ? 1 : 0);
    }

    /** Goes over 1 to 1, one small factor at a time, so that no step is refused. */
    private static void bend(MensuralRows x, int up, int down) {
        int[] from = {x.told(0, 3), x.told(0, 4)}, to = {up, down};
        for (int f = 2; f < 9; f++) {
            while (from[0] % f == 0 || from[1] % f == 0) {
                boolean first = from[0] % f == 0;
                due("bend", x.proportion(0, first ? 1 : f, first ? f : 1), 1);
                from[first ? 0 : 1] /= f;
            }
        }
        for (int f = 2; f < 9; f++) {
            while (to[0] % f == 0 || to[1] % f == 0) {
                boolean first = to[0] % f == 0;
                due("bend", x.proportion(0, first ? f : 1, first ? 1 : f), 1);
                to[first ? 0 : 1] /= f;
            }
        }
        due("bent up", x.told(0, 3), up);
        due("bent down", x.told(0, 4), down);
    }

    /** Denominators without common factors: the greatest numbers that times can have. */
    private static void compareGreatTimes() {
        MensuralRows x = new MensuralRows();
        Song song = new Song(14);
        x.voice(14);
        int[][] proportions = {{512, 945}, {729, 1000}, {625, 972}, {343, 1000}, {1, 1000}, {1, 1000}};
        for (int i = 0; i < 12; i++) {
            int[] now = proportions[i % 6];
            bend(x, now[0], now[1]);
            for (Symbol s : List.of(new Symbol(1, 0, i, false), Symbol.DOT)) {
                put(x, 0, s);
                song.row.add(s);
                song.proportions.add(now);
            }
        }
        song.readings = new Oracle(14, song.row).readings();
        compareTimes(new Random(1), x, 0, song);
        Random r = new Random(2);
        for (int i = 0; i < 6; i++) {
            compareFollower(r, x, 0, song);
        }
    }

    // ---- rows for values

    private static void compareWriting(int sign, int n, Random r) {
        Map<List<Integer>, List<Symbol>> best = WrittenRows.of(sign, n);
        MensuralRows x = new MensuralRows();
        for (Map.Entry<List<Integer>, List<Symbol>> e : best.entrySet()) {
            compareOneWriting(x, sign, n, e.getKey(), e.getValue());
        }
        List<List<Integer>> keys = new ArrayList<>(best.keySet());
        for (int tries = 0; tries < 200 && !keys.isEmpty(); tries++) {
            List<Integer> values = new ArrayList<>();
            for (int i = 0; i < n; i++) {
                values.add(keys.get(r.nextInt(keys.size())).get(i) + (r.nextInt(9) == 0 ? 3 : 0));
            }
            compareOneWriting(x, sign, n, values, best.get(values));
        }
    }

    private static void compareOneWriting(MensuralRows x, int sign, int n, List<Integer> v, List<Symbol> row) {
        String name = "write(" + sign + ", " + v + ")";
        int got = x.write(sign, n, v.get(0), n > 1 ? v.get(1) : 0, n > 2 ? v.get(2) : 0);
        due(name, got, row == null ? MensuralRows.NONE : row.size());
        for (int i = 0; row != null && i < row.size(); i++) {
            due(name + " written " + i, x.written(i), row.get(i).sort() == 3 ? 7 : row.get(i).kind());
        }
        if (row != null) {
            due(name + " written end", x.written(row.size()), MensuralRows.NONE);
        }
    }

    public static void main(String[] args) {
        Random r = new Random(20261115L);
        for (int turn = 0; turn < 4000; turn++) {
            int sign = turn % 16;
            List<Symbol> row = Rows.grown(r, sign);
            compareReadings(sign, row);
            compareReadings(sign, Rows.spoiled(r, row));
            compareReadings(sign, Rows.anyhow(r));
            if (turn % 4 == 0) {
                int dotted = 1 + r.nextInt(15);
                compareReadings(dotted, Rows.dense(r, dotted));
            }
        }
        System.out.println(many + " rows were MANY, " + unread + " had no reading, " + copies
                + " readings told what the one before told");
        for (int turn = 0; turn < 1500; turn++) {
            compareSongs(r);
        }
        compareGreatTimes();
        for (int sign = 0; sign < 16; sign++) {
            for (int n = 1; n <= 3; n++) {
                compareWriting(sign, n, r);
            }
        }
        if (many < 10 || unread < 100 || copies < 10) {
            wrong++;
            System.out.println("the rows are too much alike");
        }
        System.out.println(compared + " answers compared, " + wrong + " wrong");
        if (wrong != 0) {
            System.exit(1);
        }
    }
}
