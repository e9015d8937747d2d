import java.util.ArrayList;
import java.util.List;

/** Each call with every mix of arguments at their limits and at the ends of int. */
final class Grid {
    private static final int[] NUMBERS = Limits.around(0, 255);
    private static final int[] PREDICATES = Limits.around(0, 7);
    private static final int[] SETS = Limits.around(0, 255);
    private static final int[] NONE = {0};

    private Grid() { }

    static List<Call> of(String name) {
        return switch (name) {
            case "triple", "drop" -> grid(name, NUMBERS, PREDICATES, NUMBERS);
            case "count" -> grid(name, PREDICATES, Limits.around(0, 2), NONE);
            case "chain", "star" -> grid(name, PREDICATES, PREDICATES, NONE);
            case "bucket", "range" -> grid(name, PREDICATES, spans(), spans());
            case "quantile" -> grid(name, PREDICATES, Limits.around(1, 8), NONE);
            case "register" -> grid(name, SETS, Limits.around(0, 15), NONE);
            case "distinct" -> grid(name, SETS, new int[] {
                Integer.MIN_VALUE, -1, 0, 1, 39, 40, 255, 256, Integer.MAX_VALUE}, NONE);
            case "estimate" -> grid(name, new int[] {
                Integer.MIN_VALUE, -1, 0, 1, 2, 3, 4, 5, Integer.MAX_VALUE}, PREDICATES, PREDICATES);
            case "sample" -> grid(name, PREDICATES, Limits.around(0, 400), NONE);
            case "pattern" -> grid(name, Limits.around(-1, 255), Limits.around(-1, 7), Limits.around(-1, 255));
            case "matches" -> grid(name, new int[] {
                Integer.MIN_VALUE, -1, 0, 1, 2, 3, 29, 30, Integer.MAX_VALUE}, NONE, NONE);
            case "countAt" -> grid(name, PREDICATES, versions(), NONE);
            case "forget" -> grid(name, versions(), NONE, NONE);
            case "told" -> grid(name, Limits.around(0, 3), NONE, NONE);
            default -> grid(name, NONE, NONE, NONE);
        };
    }

    private static int[] spans() {
        return new int[] {Integer.MIN_VALUE, -1, 0, 31, 32, 223, 224, 255, 256, Integer.MAX_VALUE};
    }

    private static int[] versions() {
        return new int[] {Integer.MIN_VALUE, -1, 0, 1, 2, 3, 4, 5, 42, 43, Integer.MAX_VALUE};
    }

    private static List<Call> grid(String name, int[] as, int[] bs, int[] cs) {
        List<Call> calls = new ArrayList<>();
        for (int a : as) {
            for (int b : bs) {
                for (int c : cs) {
                    calls.add(Call.of(name, a, b, c));
                }
            }
        }
        return calls;
    }
}
