import java.util.ArrayList;
import java.util.List;
import java.util.Map;
import java.util.TreeMap;

/** Runs of calls that bring a new object to where its limits are. */
final class States {
    /** An object is used for so many calls; what later ones answer is free. */
    static final int CALLS = 512;

    private States() { }

    static Map<String, List<Call>> all() {
        Map<String, List<Call>> states = new TreeMap<>();
        states.put("nothing", List.of());
        states.put("some", some());
        states.put("one predicate full", fullOfOnePredicate());
        states.put("all full", full());
        return states;
    }

    static StatRows rowsAfter(List<Call> calls) {
        StatRows x = new StatRows();
        for (Call call : calls) {
            call.on(x);
        }
        return x;
    }

    static Model modelAfter(List<Call> calls) {
        Model m = new Model();
        for (Call call : calls) {
            call.on(m);
        }
        return m;
    }

    /** Few enough that what each call answers can be counted by hand; versions 0 and 1 are kept. */
    static List<Call> few() {
        return calls(
            "triple(4, 0, 2)", "triple(4, 0, 5)", "triple(3, 0, 2)", "version()",
            "triple(2, 1, 6)", "triple(5, 1, 3)", "triple(2, 7, 200)", "version()",
            "pattern(-1, -1, -1)", "pattern(-1, 0, -1)", "pattern(2, -1, -1)", "pattern(-1, -1, 6)");
    }

    static List<Call> calls(String... written) {
        List<Call> calls = new ArrayList<>();
        for (String call : written) {
            calls.add(Call.read(call));
        }
        return calls;
    }

    /** Triples at both ends of s, p and o, with none of predicate 3; 2 of 5 versions are kept. */
    static List<Call> some() {
        List<Call> calls = new ArrayList<>();
        for (int i = 0; i < 40; i++) {
            calls.add(Call.of("triple", i * 85 % 256, i % 8 == 3 ? 0 : i % 8, i * 51 % 256));
            if (i % 8 == 0) {
                calls.add(Call.of("version"));
            }
        }
        calls.add(Call.of("pattern", -1, -1, -1));
        calls.add(Call.of("pattern", 0, 0, 0));
        calls.add(Call.of("pattern", 255, 7, -1));
        calls.add(Call.of("forget", 3));
        return calls;
    }

    /** 400 triples, fifty of each predicate, 30 patterns, and 40 versions that are kept after 3 that are not. */
    static List<Call> full() {
        List<Call> calls = new ArrayList<>();
        for (int i = 0; i < 400; i++) {
            calls.add(Call.of("triple", (i * 5 + i / 256) % 256, i % 8, i * 51 % 256));
            if (i % 10 == 9 && i < 370) {
                calls.add(Call.of("version"));
            }
            if (i == 300) {
                calls.add(Call.of("forget", 3));
            }
        }
        for (int i = 0; i < 6; i++) {
            calls.add(Call.of("version"));
        }
        for (int i = 0; i < 30; i++) {
            calls.add(Call.of("pattern", i % 3 == 0 ? -1 : i, i % 5 - 1, i % 2 == 0 ? -1 : i * 51 % 256));
        }
        return calls;
    }

    /** 400 triples of predicate 7: each s but few has two. */
    static List<Call> fullOfOnePredicate() {
        List<Call> calls = new ArrayList<>();
        for (int i = 0; i < 400; i++) {
            calls.add(Call.of("triple", 255 - i % 256, 7, i < 256 ? 255 : i % 200));
        }
        calls.add(Call.of("version"));
        calls.add(Call.of("pattern", -1, 7, 255));
        return calls;
    }
}
