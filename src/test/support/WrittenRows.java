import java.util.ArrayList;
import java.util.HashMap;
import java.util.List;
import java.util.Map;

/** What is to be written for values, found by reading every row that there is. */
final class WrittenRows {
    private static final int CHOICES = 14;
    private static final Map<List<Integer>, Map<List<Integer>, List<Symbol>>> KNOWN = new HashMap<>();

    private WrittenRows() {
    }

    /** For each n values that can be written under a sign: the row. */
    static Map<List<Integer>, List<Symbol>> of(int sign, int n) {
        return KNOWN.computeIfAbsent(List.of(sign, n), key -> make(sign, n));
    }

    private static Map<List<Integer>, List<Symbol>> make(int sign, int n) {
        Map<List<Integer>, List<Symbol>> best = new HashMap<>();
        for (int number = 0; number < Math.pow(CHOICES, n); number++) {
            List<Symbol> row = rowOf(number, n);
            List<Part> all = new Oracle(sign, row).readings();
            if (all.isEmpty()) {
                continue;
            }
            List<Integer> values = new ArrayList<>();
            for (int i = 0; i < row.size(); i++) {
                if (row.get(i).sort() == 1) {
                    values.add(all.get(0).values().get(i));
                }
            }
            if (!best.containsKey(values) || best.get(values).size() > row.size()) {
                best.put(values, row);
            }
        }
        return best;
    }

    /** Rows in their order but for the number of dots: the first note's kind, its dot, the second's kind, .. */
    private static List<Symbol> rowOf(int number, int n) {
        List<Symbol> row = new ArrayList<>();
        for (int i = 0; i < n; i++) {
            int choice = number / (int) Math.pow(CHOICES, n - 1 - i) % CHOICES;
            row.add(new Symbol(1, choice / 2, 0, false));
            if (choice % 2 == 1) {
                row.add(Symbol.DOT);
            }
        }
        return row;
    }
}
