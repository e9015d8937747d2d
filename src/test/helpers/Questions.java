import java.util.ArrayList;
import java.util.List;

/** Calls that ask for all that an object knows, and last for what its next changes answer. */
final class Questions {
    private static final int[] SETS = {0, 1, 2, 4, 8, 16, 32, 64, 128, 129, 85, 255};

    private Questions() { }

    static List<Call> all() {
        List<Call> calls = telling();
        changes(calls);
        return calls;
    }

    /** Those that only tell. */
    static List<Call> telling() {
        List<Call> calls = ofTriples();
        patternsAndVersions(calls);
        return calls;
    }

    /** Those that have nothing to do with patterns and versions. */
    static List<Call> ofTriples() {
        List<Call> calls = new ArrayList<>();
        calls.add(Call.of("told", 0));
        ofOnePredicate(calls);
        ofTwoPredicates(calls);
        ofSets(calls);
        return calls;
    }

    private static void ofOnePredicate(List<Call> calls) {
        int[][] spans = {{0, 255}, {0, 0}, {255, 255}, {31, 32}, {40, 200}};
        for (int p = 0; p < 8; p++) {
            for (int what = 0; what <= 2; what++) {
                calls.add(Call.of("count", p, what));
            }
            for (int k = 1; k <= 8; k++) {
                calls.add(Call.of("quantile", p, k));
            }
            for (int[] span : spans) {
                calls.add(Call.of("bucket", p, span[0], span[1]));
                calls.add(Call.of("range", p, span[0], span[1]));
            }
            for (int i = 0; i < 20; i++) {
                calls.add(Call.of("sample", p, i));
            }
        }
    }

    private static void ofTwoPredicates(List<Call> calls) {
        for (int p = 0; p < 8; p++) {
            for (int q = 0; q < 8; q++) {
                calls.add(Call.of("chain", p, q));
                calls.add(Call.of("star", p, q));
                for (int op = 0; op <= 4; op++) {
                    calls.add(Call.of("estimate", op, p, q));
                }
            }
        }
    }

    private static void ofSets(List<Call> calls) {
        for (int set : SETS) {
            for (int i = 0; i < 16; i++) {
                calls.add(Call.of("register", set, i));
            }
            calls.add(Call.of("distinct", set, 0));
            calls.add(Call.of("distinct", set, Integer.MAX_VALUE));
        }
    }

    private static void patternsAndVersions(List<Call> calls) {
        for (int what = 1; what <= 3; what++) {
            calls.add(Call.of("told", what));
        }
        for (int row = 0; row <= 30; row++) {
            calls.add(Call.of("matches", row));
        }
        for (int version = 0; version <= 43; version++) {
            for (int p = 0; p < 8; p++) {
                calls.add(Call.of("countAt", p, version));
            }
        }
    }

    /** These stand at the end, since they leave another state to the questions after them. */
    private static void changes(List<Call> calls) {
        calls.add(Call.of("triple", 0, 0, 0));
        calls.add(Call.of("triple", 254, 7, 1));
        calls.add(Call.of("triple", 253, 6, 1));
        calls.add(Call.of("drop", 0, 0, 0));
        calls.add(Call.of("drop", 255, 7, 255));
        calls.add(Call.of("drop", 2, 5, 2));
        calls.add(Call.of("pattern", -1, -1, -1));
        calls.add(Call.of("pattern", 255, 7, -1));
        calls.add(Call.of("pattern", 17, 5, 18));
        calls.add(Call.of("version"));
        calls.add(Call.of("forget", 4));
        calls.add(Call.of("version"));
        calls.add(Call.of("told", 2));
    }
}
