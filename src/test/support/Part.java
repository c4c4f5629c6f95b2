import java.util.ArrayList;
import java.util.List;

/** Something that was read: where it ends, its forms, its values. */
record Part(int end, List<Integer> forms, List<Integer> values) {
    Part then(Part more) {
        return new Part(more.end, joined(forms, more.forms), joined(values, more.values));
    }

    Part under(int form) {
        return new Part(end, joined(List.of(form), forms), values);
    }

    int strain() {
        int sum = 0;
        for (int f : forms) {
            sum += f == 7 || f == 12 ? 1 : f == 8 ? 2 : f == 9 ? 3 : 0;
        }
        return sum;
    }

    private static List<Integer> joined(List<Integer> a, List<Integer> b) {
        List<Integer> all = new ArrayList<>(a);
        all.addAll(b);
        return all;
    }
}
