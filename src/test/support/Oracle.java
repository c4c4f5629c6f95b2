import java.util.ArrayList;
import java.util.HashMap;
import java.util.List;
import java.util.Map;

/** A second, slow way to the readings of a row: all parts are made as the document words them, then sorted. */
final class Oracle {
    private static final int TOO_MANY = 6000;
    final int sign;
    final List<Symbol> row;
    final Map<String, List<Part>> known = new HashMap<>();

    Oracle(int sign, List<Symbol> row) {
        this.sign = sign;
        this.row = row;
    }

    boolean perfect(int k) {
        return k < 4 && (sign & 1 << k) != 0;
    }

    int full(int k) {
        return k == 6 ? 3 : (perfect(k) ? 3 : 2) * full(k + 1);
    }

    int ground() {
        for (int k = 0; k < 4; k++) {
            if (perfect(k)) {
                return k;
            }
        }
        return 4;
    }

    boolean dotAt(int p) {
        return p < row.size() && row.get(p).sort() == 3;
    }

    int nextKind(int p) {
        int q = p;
        while (q < row.size() && row.get(q).sort() == 3) {
            q++;
        }
        return q < row.size() ? row.get(q).kind() : -1;
    }

    List<Part> plain(int k, int p, int worth, boolean dotted) {
        List<Part> all = new ArrayList<>();
        if (p < row.size() && row.get(p).isPlain(k)) {
            if (!dotted) {
                all.add(new Part(p + 1, List.of(), List.of(worth)));
            } else if (dotAt(p + 1)) {
                all.add(new Part(p + 2, List.of(), List.of(worth, 0)));
            }
        }
        return all;
    }

    List<Part> under(int form, List<Part> parts) {
        List<Part> all = new ArrayList<>();
        for (Part x : parts) {
            all.add(x.under(form));
        }
        return guarded(all);
    }

    static List<Part> guarded(List<Part> all) {
        if (all.size() > TOO_MANY) {
            throw new TooMany();
        }
        return all;
    }

    List<Part> thenUnit(List<Part> firsts, int k) {
        List<Part> all = new ArrayList<>();
        for (Part x : firsts) {
            for (Part y : unit(k, x.end())) {
                all.add(x.then(y));
            }
        }
        return guarded(all);
    }

    List<Part> thenPair(List<Part> firsts, int k) {
        List<Part> all = new ArrayList<>();
        for (Part x : firsts) {
            for (Part y : pair(k, x.end())) {
                all.add(x.then(y));
            }
        }
        return guarded(all);
    }

    List<Part> thenThird(List<Part> firsts, int k) {
        List<Part> all = new ArrayList<>();
        for (Part x : firsts) {
            for (Part y : third(k, x.end())) {
                all.add(x.then(y));
            }
        }
        return guarded(all);
    }

    List<Part> thenPlain(List<Part> firsts, int k, int worth, boolean dotted) {
        List<Part> all = new ArrayList<>();
        for (Part x : firsts) {
            for (Part y : plain(k, x.end(), worth, dotted)) {
                all.add(x.then(y));
            }
        }
        return guarded(all);
    }

    List<Part> unit(int k, int p) {
        String key = "u" + k + "," + p;
        if (!known.containsKey(key)) {
            known.put(key, k > 6 ? List.of() : makeUnit(k, p));
        }
        return known.get(key);
    }

    private List<Part> makeUnit(int k, int p) {
        List<Part> base = new ArrayList<>(under(1, plain(k, p, full(k), false)));
        if (p < row.size() && row.get(p).sort() == 2 && row.get(p).kind() == k) {
            base.add(new Part(p + 1, List.of(2), List.of(full(k))));
        }
        if (!perfect(k)) {
            if (k < 6) {
                base.addAll(under(4, thenUnit(unit(k + 1, p), k + 1)));
                base.addAll(under(5, pair(k + 1, p)));
            }
            return guarded(base);
        }
        int two = 2 * full(k + 1);
        base.addAll(under(6, thenUnit(thenUnit(unit(k + 1, p), k + 1), k + 1)));
        base.addAll(under(7, thenUnit(plain(k, p, two, false), k + 1)));
        for (Part x : under(8, thenPlain(unit(k + 1, p), k + 1, two, false))) {
            int next = nextKind(x.end());
            if (next >= 0 && next <= k) {
                base.add(x);
            }
        }
        for (Part x : under(9, thenPlain(unit(k + 1, p), k, two, false))) {
            if (nextKind(x.end()) != k) {
                base.add(x);
            }
        }
        base.addAll(under(10, thenPair(unit(k + 1, p), k + 1)));
        base.addAll(under(11, thenUnit(pair(k + 1, p), k + 1)));
        List<Part> all = new ArrayList<>(base);
        for (Part x : base) {
            if (dotAt(x.end())) {
                all.add(x.then(new Part(x.end() + 1, List.of(12), List.of(0))));
            }
        }
        all.addAll(under(3, plain(k, p, full(k), true)));
        return guarded(all);
    }

    List<Part> pair(int k, int p) {
        String key = "p" + k + "," + p;
        if (!known.containsKey(key)) {
            known.put(key, k > 6 ? List.of() : makePair(k, p));
        }
        return known.get(key);
    }

    private List<Part> makePair(int k, int p) {
        List<Part> all = new ArrayList<>(thirds(k, p));
        if (!perfect(k) && k < 6) {
            int three = 3 * full(k + 1);
            all.addAll(under(13, thenUnit(plain(k, p, three, true), k + 1)));
            all.addAll(under(14, thenPlain(unit(k + 1, p), k, three, true)));
        }
        return guarded(all);
    }

    List<Part> thirds(int k, int p) {
        return under(15, thenThird(thenThird(third(k, p), k), k));
    }

    List<Part> third(int k, int p) {
        List<Part> all = new ArrayList<>();
        if (p < row.size() && row.get(p).isColoured(k)) {
            all.add(new Part(p + 1, List.of(16), List.of(2 * full(k) / 3)));
        }
        if (k < 6 && p + 1 < row.size() && row.get(p).isColoured(k + 1) && row.get(p + 1).isColoured(k + 1)) {
            all.add(new Part(p + 2, List.of(17), List.of(full(k) / 3, full(k) / 3)));
        }
        return all;
    }

    List<Part> item(int p) {
        List<Part> all = new ArrayList<>(unit(ground(), p));
        all.addAll(pair(ground(), p));
        for (int k = 0; k < ground(); k++) {
            all.addAll(thirds(k, p));
            all.addAll(under(1, plain(k, p, full(k), false)));
            all.addAll(under(18, plain(k, p, full(k) * 3 / 2, true)));
            if (p < row.size() && row.get(p).sort() == 2 && row.get(p).kind() == k) {
                all.add(new Part(p + 1, List.of(2), List.of(full(k))));
            }
        }
        return guarded(all);
    }

    /** All rows of items from p on that end with the row. */
    List<Part> rest(int p) {
        String key = "r" + p;
        if (!known.containsKey(key)) {
            List<Part> all = new ArrayList<>();
            if (p == row.size()) {
                all.add(new Part(p, List.of(), List.of()));
            } else {
                for (Part x : item(p)) {
                    for (Part y : rest(x.end())) {
                        all.add(x.then(y));
                    }
                    guarded(all);
                }
            }
            known.put(key, all);
        }
        return known.get(key);
    }

    List<Part> readings() {
        List<Part> all = new ArrayList<>(rest(0));
        all.sort((x, y) -> {
            if (x.strain() != y.strain()) {
                return Integer.compare(x.strain(), y.strain());
            }
            for (int i = 0; i < Math.min(x.forms().size(), y.forms().size()); i++) {
                if (!x.forms().get(i).equals(y.forms().get(i))) {
                    return Integer.compare(x.forms().get(i), y.forms().get(i));
                }
            }
            return Integer.compare(x.forms().size(), y.forms().size());
        });
        return all;
    }

    int stuck() {
        boolean[] reached = new boolean[row.size() + 1];
        reached[0] = true;
        int most = 0;
        for (int p = 0; p <= row.size(); p++) {
            if (reached[p]) {
                most = p;
                for (Part x : item(p)) {
                    reached[x.end()] = true;
                }
            }
        }
        return most == row.size() ? -1 : most;
    }
}
