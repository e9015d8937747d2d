/** Long runs of calls, each compared with the Model's answer: all promises together, with every kind of argument. */
public final class ModelRunsTest {
    private static final int RUNS = 600;
    private static final int CALLS = 512;
    private static final int METHODS = 18;
    private static final int TRIPLE = 0;
    private static final int[] EDGES = {
        Integer.MIN_VALUE, -33, -2, -1, 0, 1, 7, 8, 9, 15, 16, 31, 32, 39, 40, 63, 64, 223, 224, 254, 255, 256,
        Integer.MAX_VALUE
    };

    private static final Due due = new Due();
    private static long seed = 20261115;
    private static int wholeFull = 0;

    public static void main(String[] args) {
        for (int run = 0; run < RUNS; run++) {
            runOnce(run);
        }
        due.isTrue("some runs come to 400 triples, not only " + wholeFull, wholeFull >= 20);
        due.end();
    }

    private static void runOnce(int run) {
        StatRows x = new StatRows();
        Model m = new Model();
        int[] spreads = {6, 40, 256};
        int spread = spreads[run % 3];
        int fillingCalls = run % 4 * 140;
        int favourite = run / 12 % METHODS;
        for (int call = 0; call < CALLS; call++) {
            int method = call < fillingCalls ? TRIPLE : below(3) == 0 ? favourite : below(METHODS);
            compare(run + "." + call, x, m, method, spread);
        }
        wholeFull += m.told(0) == 400 ? 1 : 0;
    }

    private static void compare(String at, StatRows x, Model m, int method, int spread) {
        int s = any(0, spread);
        int o = any(0, spread);
        int p = any(0, 8);
        int q = any(0, 8);
        int set = any(0, 256);
        int n = any(0, 60);
        int few = any(-1, 18);
        String with = " " + method + " (s " + s + ", p " + p + ", o " + o + ", q " + q + ", set " + set
            + ", n " + n + ", few " + few + ")";
        switch (method) {
            case TRIPLE -> due.is(at + with, x.triple(s, p, o), m.triple(s, p, o));
            case 1 -> due.is(at + with, x.drop(s, p, o), m.drop(s, p, o));
            case 2 -> due.is(at + with, x.count(p, few % 4), m.count(p, few % 4));
            case 3 -> due.is(at + with, x.chain(p, q), m.chain(p, q));
            case 4 -> due.is(at + with, x.star(p, q), m.star(p, q));
            case 5 -> due.is(at + with, x.bucket(p, s, o), m.bucket(p, s, o));
            case 6 -> due.is(at + with, x.quantile(p, few % 10), m.quantile(p, few % 10));
            case 7 -> due.is(at + with, x.register(set, few), m.register(set, few));
            case 8 -> due.is(at + with, x.distinct(set, s), m.distinct(set, s));
            case 9 -> due.is(at + with, x.estimate(few % 6, p, q), m.estimate(few % 6, p, q));
            case 10 -> due.is(at + with, x.range(p, s, o), m.range(p, s, o));
            case 11 -> due.is(at + with, x.sample(p, few), m.sample(p, few));
            case 12 -> due.is(at + with, x.pattern(s - 1, p - 1, o - 1), m.pattern(s - 1, p - 1, o - 1));
            case 13 -> due.is(at + with, x.matches(n), m.matches(n));
            case 14 -> due.is(at + with, x.version(), m.version());
            case 15 -> due.is(at + with, x.countAt(p, n), m.countAt(p, n));
            case 16 -> due.is(at + with, x.forget(n), m.forget(n));
            default -> due.is(at + with, x.told(few % 5), m.told(few % 5));
        }
    }

    /** Mostly one of least .. end - 1, now and then an edge of some kind. */
    private static int any(int least, int end) {
        return below(60) == 0 ? EDGES[below(EDGES.length)] : least + below(end - least);
    }

    /** A told sequence in place of a random source, so that each run of the test is the same. */
    private static int below(int bound) {
        seed = seed * 6364136223846793005L + 1442695040888963407L;
        return (int) ((seed >>> 33) % bound);
    }
}
