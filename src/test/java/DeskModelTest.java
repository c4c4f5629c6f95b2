import java.lang.reflect.InvocationTargetException;
import java.lang.reflect.Method;
import java.util.ArrayList;
import java.util.HashMap;
import java.util.List;
import java.util.Map;
import java.util.Random;
import java.util.TreeMap;
import java.util.TreeSet;

/**
 * Runs of calls of every sort, in any order, on one desk and on the model of the whole document: both
 * must answer the same to each call. So what one call leaves behind for another is seen, too.
 */
public final class DeskModelTest {
    private static final int RUNS = 900, CALLS = 400;
    private static final String[] ASKED = {"told", "symbol", "readings", "stuck", "strained", "form", "form", "value",
        "value", "pick", "pick", "time", "time", "at", "together", "meet", "canon", "follower", "follower", "written",
        "count", "write", "ligature", "proportion", "back", "symbols", "symbols"};
    /** What each call names, by the names of the constants; "ok" is an answer that is no refusal. */
    private static final Map<String, String> NAMED = Map.ofEntries(Map.entry("voice", "ok BAD FULL"),
        Map.entry("note", "ok BAD FULL"), Map.entry("rest", "ok BAD FULL"), Map.entry("dot", "ok BAD FULL"),
        Map.entry("ligature", "ok BAD SHAPE FULL"), Map.entry("proportion", "ok BAD FULL"),
        Map.entry("back", "ok BAD NONE"), Map.entry("told", "ok BAD"), Map.entry("symbol", "ok BAD NONE"),
        Map.entry("readings", "ok BAD MANY"), Map.entry("stuck", "ok BAD NONE"),
        Map.entry("strained", "ok BAD MANY NONE"), Map.entry("form", "ok BAD MANY NONE"),
        Map.entry("value", "ok BAD MANY NONE"), Map.entry("pick", "ok BAD MANY NONE"),
        Map.entry("time", "ok BAD MANY NONE"), Map.entry("at", "ok BAD MANY NONE"),
        Map.entry("together", "ok MANY"), Map.entry("meet", "ok BAD MANY NONE"),
        Map.entry("canon", "ok BAD MANY NONE FULL"), Map.entry("follower", "ok BAD NONE"),
        Map.entry("write", "ok BAD NONE"), Map.entry("written", "ok NONE"), Map.entry("count", "ok BAD"));
    private static final List<String> REFUSALS = List.of("ok", "NONE", "BAD", "FULL", "MANY", "SHAPE");
    private static final Map<String, Method> OF_DESK = new HashMap<>(), OF_MODEL = new HashMap<>();
    private static final Map<String, TreeSet<String>> SEEN = new TreeMap<>();
    private static int wrong = 0, compared = 0;

    private final Random r;
    private final int number;
    private final MensuralRows desk = new MensuralRows();
    private final DeskModel model = new DeskModel();
    private int calls = 0;

    private DeskModelTest(int number) {
        this.number = number;
        r = new Random(number);
    }

    private static long ask(Map<String, Method> methods, Object whom, String name, Object... given) {
        try {
            return ((Number) methods.get(name).invoke(whom, given)).longValue();
        } catch (InvocationTargetException e) {
            if (e.getCause() instanceof TooMany) {
                throw new TooMany();
            }
            throw new IllegalStateException(name, e.getCause());
        } catch (IllegalAccessException e) {
            throw new IllegalStateException(name, e);
        }
    }

    private long call(String name, Object... given) {
        long want = ask(OF_MODEL, model, name, given), got = ask(OF_DESK, desk, name, given);
        calls++;
        compared++;
        boolean refused = want < 0 && want >= -5;
        SEEN.computeIfAbsent(name, n -> new TreeSet<>()).add(refused ? REFUSALS.get((int) -want) : "ok");
        if (got != want) {
            wrong++;
            if (wrong < 20) {
                System.out.println("run " + number + ", call " + calls + ": " + name + List.of(given) + " answered "
                    + got + ", due is " + want);
            }
        }
        return want;
    }

    /** Mostly a number within these bounds, now and then one beyond. */
    private int any(int least, int most) {
        if (r.nextInt(20) == 0) {
            return List.of(Integer.MIN_VALUE, -1, least - 1, most + 1, most + 2, Integer.MAX_VALUE).get(r.nextInt(6));
        }
        return least + r.nextInt(Math.max(1, most - least + 1));
    }

    private void put(int v, Symbol s) {
        if (s.sort() == 1) {
            call("note", v, s.kind(), r.nextInt(60) == 0 ? any(-40, 40) : s.pitch(), s.coloured());
        } else if (s.sort() == 2) {
            call("rest", v, s.kind());
        } else {
            call("dot", v);
        }
        if (r.nextInt(15) == 0) {
            call("proportion", v, any(1, 9), any(1, 9));
        }
    }

    private List<Symbol> rowFor(int sign) {
        int how = r.nextInt(10);
        return how < 5 ? Rows.grown(r, sign) : how < 7 && sign > 0 ? Rows.dense(r, sign)
            : how < 8 ? Rows.spoiled(r, Rows.grown(r, sign)) : how < 9 ? Rows.anyhow(r) : List.of();
    }

    private void addVoice() {
        int sign = any(0, 15), v = (int) call("voice", sign);
        if (v >= 0) {
            for (Symbol s : rowFor(sign)) {
                put(v, s);
            }
        }
    }

    private int sizeOf(int v) {
        return Math.max(0, model.told(v, 0));
    }

    private int readingOf(int v) {
        return any(0, Math.max(0, model.readings(v)));
    }

    private long pitches() {
        long all = 0;
        for (int i = 0; i < 8; i++) {
            int pitch = r.nextInt(50) == 0 ? r.nextInt(256) : r.nextInt(81) - 40;
            all |= (pitch & 255L) << 8 * i;
        }
        return all;
    }

    private void write() {
        int sign = any(0, 15), n = any(1, 2);
        // Three notes are compared elsewhere: all their rows are read under few signs here.
        boolean three = sign % 6 == 4 && r.nextBoolean();
        n = three ? 3 : n;
        List<Integer> values = List.of(3 * any(0, 40), 3 * any(0, 40), 3 * any(0, 40));
        if (r.nextBoolean() && sign >= 0 && sign < 16 && n > 0 && n < 4) {
            List<List<Integer>> all = new ArrayList<>(WrittenRows.of(sign, n).keySet());
            List<Integer> some = new ArrayList<>(all.get(r.nextInt(all.size())));
            some.addAll(List.of(any(0, 9), any(0, 9)));
            values = some;
        }
        if (n != 3 || three) {
            call("write", sign, n, values.get(0), values.get(1), values.get(2));
        }
    }

    /** Any time, or one at which a symbol begins, or a little before or behind that. */
    private void at(int v) {
        int i = r.nextInt(1 + sizeOf(v)), times = 1 + r.nextInt(9);
        long up = any(0, 3000), down = any(1, 9);
        if (model.time(v, i, 0) >= 0 && r.nextInt(4) > 0) {
            up = model.time(v, i, 0) * times + r.nextInt(3) - 1;
            down = model.time(v, i, 1) * times;
        }
        if (up <= Integer.MAX_VALUE && down <= Integer.MAX_VALUE) {
            call("at", v, (int) up, (int) down);
        }
    }

    private void change(int v) {
        List<Symbol> more = rowFor(Math.max(0, model.told(v, 1)));
        if (r.nextInt(3) == 0) {
            int less = r.nextInt(25);
            for (int i = 0; i < less; i++) {
                call("back", v);
            }
        }
        for (Symbol s : more.subList(0, Math.min(more.size(), 1 + r.nextInt(8)))) {
            put(v, s);
        }
    }

    private void askOne() {
        String name = ASKED[r.nextInt(ASKED.length)];
        int v = r.nextInt(30) == 0 ? any(0, 6) : r.nextInt(Math.max(1, model.count(0)));
        int f = any(0, Math.max(0, model.count(1) - 1));
        switch (name) {
            case "told": call(name, v, any(0, 6)); break;
            case "symbol": call(name, v, any(0, sizeOf(v)), any(0, 3)); break;
            case "readings": case "stuck": call(name, v); break;
            case "back": call(name, v); break;
            case "strained": case "pick": call(name, v, readingOf(v)); break;
            case "form": call(name, v, readingOf(v), any(0, 2 * sizeOf(v))); break;
            case "value": call(name, v, readingOf(v), any(0, sizeOf(v))); break;
            case "time": call(name, v, any(0, sizeOf(v)), any(0, 1)); break;
            case "at": at(v); break;
            case "together": call(name); break;
            case "meet": call(name, v, any(0, Math.max(0, model.count(0) - 1)), any(0, 1)); break;
            case "canon": call(name, v, any(0, 7), any(0, 100000), any(-40, 40)); break;
            case "follower": call(name, f, any(0, 24), any(0, 4)); break;
            case "write": write(); break;
            case "written": call(name, any(0, 6)); break;
            case "count": call(name, any(0, 2)); break;
            case "ligature": call(name, v, any(0, 15), any(2, 8), pitches()); break;
            case "proportion": call(name, v, any(1, 9), any(1, 9)); break;
            default: change(v); break;
        }
    }

    private void run() {
        int voices = 1 + r.nextInt(7);
        try {
            while (calls < CALLS && wrong < 20) {
                if (r.nextInt(12) == 0 && voices-- > 0 || model.count(0) == 0) {
                    addVoice();
                } else {
                    askOne();
                }
            }
        } catch (TooMany e) {
            // The model cannot read such a row: the run ends here.
            return;
        }
    }

    private static void know(Class<?> c, Map<String, Method> methods) {
        for (Method m : c.getDeclaredMethods()) {
            if (NAMED.containsKey(m.getName())) {
                methods.put(m.getName(), m);
            }
        }
    }

    public static void main(String[] args) {
        know(MensuralRows.class, OF_DESK);
        know(DeskModel.class, OF_MODEL);
        for (int number = 0; number < RUNS; number++) {
            new DeskModelTest(number).run();
        }
        for (String name : NAMED.keySet()) {
            TreeSet<String> want = new TreeSet<>(List.of(NAMED.get(name).split(" ")));
            if (!SEEN.get(name).containsAll(want)) {
                wrong++;
                System.out.println(name + " answered " + SEEN.get(name) + " only, and not all of " + want);
            }
        }
        System.out.println(compared + " answers compared, " + wrong + " wrong");
        if (wrong != 0) {
            System.exit(1);
        }
    }
}
