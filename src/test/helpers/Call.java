/** One call with its arguments, so that a run of calls can be put to StatRows and to the Model alike. */
record Call(String name, int a, int b, int c) {
    static final String[] NAMES = {
        "triple", "drop", "count", "chain", "star", "bucket", "quantile", "register", "distinct", "estimate",
        "range", "sample", "pattern", "matches", "version", "countAt", "forget", "told"
    };

    static Call of(String name, int... arguments) {
        int[] three = java.util.Arrays.copyOf(arguments, 3);
        return new Call(name, three[0], three[1], three[2]);
    }

    long on(StatRows x) {
        return switch (name) {
            case "triple" -> x.triple(a, b, c);
            case "drop" -> x.drop(a, b, c);
            case "count" -> x.count(a, b);
            case "chain" -> x.chain(a, b);
            case "star" -> x.star(a, b);
            case "bucket" -> x.bucket(a, b, c);
            case "quantile" -> x.quantile(a, b);
            case "register" -> x.register(a, b);
            case "distinct" -> x.distinct(a, b);
            case "estimate" -> x.estimate(a, b, c);
            case "range" -> x.range(a, b, c);
            case "sample" -> x.sample(a, b);
            case "pattern" -> x.pattern(a, b, c);
            case "matches" -> x.matches(a);
            case "version" -> x.version();
            case "countAt" -> x.countAt(a, b);
            case "forget" -> x.forget(a);
            case "told" -> x.told(a);
            default -> throw new IllegalArgumentException(name);
        };
    }

    long on(Model m) {
        return switch (name) {
            case "triple" -> m.triple(a, b, c);
            case "drop" -> m.drop(a, b, c);
            case "count" -> m.count(a, b);
            case "chain" -> m.chain(a, b);
            case "star" -> m.star(a, b);
            case "bucket" -> m.bucket(a, b, c);
            case "quantile" -> m.quantile(a, b);
            case "register" -> m.register(a, b);
            case "distinct" -> m.distinct(a, b);
            case "estimate" -> m.estimate(a, b, c);
            case "range" -> m.range(a, b, c);
            case "sample" -> m.sample(a, b);
            case "pattern" -> m.pattern(a, b, c);
            case "matches" -> m.matches(a);
            case "version" -> m.version();
            case "countAt" -> m.countAt(a, b);
            case "forget" -> m.forget(a);
            case "told" -> m.told(a);
            default -> throw new IllegalArgumentException(name);
        };
    }

    @Override
    public String toString() {
        return name + "(" + a + ", " + b + ", " + c + ")";
    }
}
