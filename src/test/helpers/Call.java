import java.util.Arrays;
import java.util.List;
import java.util.regex.Matcher;
import java.util.regex.Pattern;

/** One call with its arguments, so that a run of calls can be put to StatRows and to the Model alike. */
record Call(String name, int a, int b, int c) {
    static final String[] NAMES = {
        "triple", "drop", "count", "chain", "star", "bucket", "quantile", "register", "distinct", "estimate",
        "range", "sample", "pattern", "matches", "version", "countAt", "forget", "told"
    };
    /** The calls that may change what others answer; all others only tell. */
    static final List<String> CHANGES = List.of("triple", "drop", "pattern", "version", "forget");

    private static final Pattern WRITTEN = Pattern.compile("(\\w+)\\(([-\\d, ]*)\\)");

    static Call of(String name, int... arguments) {
        int[] three = Arrays.copyOf(arguments, 3);
        return new Call(name, three[0], three[1], three[2]);
    }

    /** A call as it is written in Java, with numbers alone. */
    static Call read(String written) {
        Matcher parts = WRITTEN.matcher(written);
        if (!parts.matches()) {
            throw new IllegalArgumentException(written);
        }
        String arguments = parts.group(2);
        int[] numbers = arguments.isEmpty()
            ? new int[0] : Arrays.stream(arguments.split(", ")).mapToInt(Integer::parseInt).toArray();
        return of(parts.group(1), numbers);
    }

    boolean onlyTells() {
        return !CHANGES.contains(name);
    }

    long on(StatRows x) {
        return switch (name) {
            case "triple" -> x.triple(a, b, c);
            case "drop" -> x.drop(a, b, c);
            case "count" -> x.count(a, b);
            case "chain" -> x.chain(a, b);
            case "star" -> x.star(a, b);
            case "bucket" -> x.bucket(a, b, c);
            case "quantile" -> x.quantile(a, b);
            case "register" -> x.register(a, b);
            case "distinct" -> x.distinct(a, b);
            case "estimate" -> x.estimate(a, b, c);
            case "range" -> x.range(a, b, c);
            case "sample" -> x.sample(a, b);
            case "pattern" -> x.pattern(a, b, c);
            case "matches" -> x.matches(a);
            case "version" -> x.version();
            case "countAt" -> x.countAt(a, b);
            case "forget" -> x.forget(a);
            case "told" -> x.told(a);
            default -> throw new IllegalArgumentException(name);
        };
    }

    long on(Model m) {
        return switch (name) {
            case "triple" -> m.triple(a, b, c);
            case "drop" -> m.drop(a, b, c);
            case "count" -> m.count(a, b);
            case "chain" -> m.chain(a, b);
            case "star" -> m.star(a, b);
            case "bucket" -> m.bucket(a, b, c);
            case "quantile" -> m.quantile(a, b);
            case "register" -> m.register(a, b);
            case "distinct" -> m.distinct(a, b);
            case "estimate" -> m.estimate(a, b, c);
            case "range" -> m.range(a, b, c);
            case "sample" -> m.sample(a, b);
            case "pattern" -> m.pattern(a, b, c);
            case "matches" -> m.matches(a);
            case "version" -> m.version();
            case "countAt" -> m.countAt(a, b);
            case "forget" -> m.forget(a);
            case "told" -> m.told(a);
            default -> throw new IllegalArgumentException(name);
        };
    }

    @Override
    public String toString() {
        return name + "(" + a + ", " + b + ", " + c + ")";
    }
}
