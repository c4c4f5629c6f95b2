import java.util.ArrayList;
import java.util.List;
import java.util.Random;

/** Rows to read: lawful ones, spoiled ones, any ones. */
final class Rows {
    private Rows() {
    }

    private static Symbol note(Random r, int k, boolean coloured) {
        return new Symbol(1, k, r.nextInt(81) - 40, coloured);
    }

    private static void growUnit(Random r, Oracle o, int k, List<Symbol> out, int depth) {
        int how = r.nextInt(o.perfect(k) ? 9 : 5);
        if (k == 6 || depth > 5 || how < 2) {
            out.add(r.nextInt(5) == 0 ? new Symbol(2, k, -1, false) : note(r, k, false));
        } else if (!o.perfect(k)) {
            if (how < 4) {
                growUnit(r, o, k + 1, out, depth + 1);
                growUnit(r, o, k + 1, out, depth + 1);
            } else {
                growPair(r, o, k + 1, out, depth + 1);
            }
        } else {
            growPerfect(r, o, k, out, depth, how);
        }
        if (o.perfect(k) && out.get(out.size() - 1).sort() != 3 && r.nextInt(6) == 0) {
            out.add(Symbol.DOT);
        }
    }

    private static void growPerfect(Random r, Oracle o, int k, List<Symbol> out, int depth, int how) {
        if (how == 2) {
            out.add(note(r, k, false));
            growUnit(r, o, k + 1, out, depth + 1);
        } else if (how == 3 || how == 4) {
            growUnit(r, o, k + 1, out, depth + 1);
            out.add(note(r, how == 3 ? k + 1 : k, false));
        } else if (how == 5) {
            growUnit(r, o, k + 1, out, depth + 1);
            growPair(r, o, k + 1, out, depth + 1);
        } else if (how == 6) {
            growPair(r, o, k + 1, out, depth + 1);
            growUnit(r, o, k + 1, out, depth + 1);
        } else {
            for (int i = 0; i < 3; i++) {
                growUnit(r, o, k + 1, out, depth + 1);
            }
        }
    }

    private static void growPair(Random r, Oracle o, int k, List<Symbol> out, int depth) {
        int how = r.nextInt(3);
        if (how == 0 || k == 6 || o.perfect(k)) {
            for (int i = 0; i < 3; i++) {
                if (k < 6 && r.nextBoolean()) {
                    out.add(note(r, k + 1, true));
                    out.add(note(r, k + 1, true));
                } else {
                    out.add(note(r, k, true));
                }
            }
        } else if (how == 1) {
            out.add(note(r, k, false));
            out.add(Symbol.DOT);
            growUnit(r, o, k + 1, out, depth + 1);
        } else {
            growUnit(r, o, k + 1, out, depth + 1);
            out.add(note(r, k, false));
            out.add(Symbol.DOT);
        }
    }

    static List<Symbol> grown(Random r, int sign) {
        Oracle o = new Oracle(sign, List.of());
        int g = o.ground(), want = r.nextInt(25);
        List<Symbol> all = new ArrayList<>();
        for (int tries = 0; tries < 60; tries++) {
            List<Symbol> more = new ArrayList<>();
            int how = r.nextInt(8);
            if (how < 5) {
                growUnit(r, o, g, more, 0);
            } else if (how == 5) {
                growPair(r, o, g, more, 0);
            } else if (g > 0) {
                int k = r.nextInt(g);
                if (r.nextInt(4) == 0) {
                    growPair(r, new Oracle(15, List.of()), k, more, 0);
                } else {
                    more.add(note(r, k, false));
                    if (r.nextInt(3) == 0) {
                        more.add(Symbol.DOT);
                    }
                }
            }
            if (all.size() + more.size() <= want) {
                all.addAll(more);
            }
        }
        return all;
    }

    static List<Symbol> spoiled(Random r, List<Symbol> row) {
        List<Symbol> all = new ArrayList<>();
        for (Symbol s : row) {
            int how = r.nextInt(20);
            if (how == 0) {
                all.add(note(r, r.nextInt(7), r.nextBoolean()));
            } else if (how == 1) {
                all.add(new Symbol(2, r.nextInt(7), -1, false));
            } else if (how != 2) {
                all.add(s);
            }
        }
        return lawfulDots(all);
    }

    static List<Symbol> anyhow(Random r) {
        List<Symbol> all = new ArrayList<>();
        int size = r.nextInt(13), from = r.nextInt(6), width = 1 + r.nextInt(3);
        for (int i = 0; i < size; i++) {
            int how = r.nextInt(10);
            int k = Math.min(6, from + r.nextInt(width));
            all.add(how == 0 ? Symbol.DOT : how == 1 ? new Symbol(2, k, -1, false) : note(r, k, how == 2));
        }
        return lawfulDots(all);
    }

    /** Dots and notes of the ground and the kind below: read in very many ways, if in any. */
    static List<Symbol> dense(Random r, int sign) {
        int g = new Oracle(sign, List.of()).ground();
        List<Symbol> all = new ArrayList<>();
        int size = 6 + r.nextInt(14);
        for (int i = 0; i < size; i++) {
            int how = r.nextInt(8);
            all.add(note(r, how == 0 ? g + 1 : g, false));
            if (how != 1) {
                all.add(Symbol.DOT);
            }
            if (how == 2) {
                all.add(note(r, g + 1, false));
            }
        }
        return lawfulDots(all);
    }

    private static List<Symbol> lawfulDots(List<Symbol> row) {
        List<Symbol> all = new ArrayList<>();
        for (Symbol s : row) {
            if (all.size() < 24 && (s.sort() != 3 || !all.isEmpty() && all.get(all.size() - 1).sort() != 3)) {
                all.add(s);
            }
        }
        return all;
    }
}
