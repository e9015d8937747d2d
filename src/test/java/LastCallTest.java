import java.util.ArrayList;
import java.util.List;

/** An object is used for 512 calls: each kind of call may be the last of them. What comes after is free, but ends. */
public final class LastCallTest {
    private static final int CALLS_AFTER = 20000;

    private static final Due due = new Due();

    public static void main(String[] args) {
        List<Call> before = run();
        due.is("calls before the last", before.size(), States.CALLS - 1);
        for (Call last : lastCalls()) {
            due.is("call 512: " + last, last.on(States.rowsAfter(before)), last.on(States.modelAfter(before)));
        }
        mostVersions();
        laterCallsEnd();
        due.end();
    }

    /** To all limits, and then to and fro there. */
    private static List<Call> run() {
        List<Call> calls = new ArrayList<>(States.full());
        for (int i = calls.size(); i < States.CALLS - 1; i++) {
            calls.add(Call.of(i % 2 == 0 ? "drop" : "triple", 0, 0, 0));
        }
        return calls;
    }

    private static List<Call> lastCalls() {
        return List.of(
            Call.of("triple", 0, 0, 0), Call.of("triple", 255, 0, 255), Call.of("drop", 5, 1, 51),
            Call.of("count", 1, 2), Call.of("chain", 0, 1), Call.of("star", 7, 7), Call.of("bucket", 2, 0, 255),
            Call.of("quantile", 3, 8), Call.of("register", 255, 7), Call.of("distinct", 255, 0),
            Call.of("estimate", 0, 1, 2), Call.of("estimate", 4, 1, 2), Call.of("range", 7, 1, 254),
            Call.of("sample", 4, 0), Call.of("pattern", 1, 0, 51), Call.of("pattern", 200, 0, 51),
            Call.of("matches", 29), Call.of("version"), Call.of("countAt", 7, 42), Call.of("countAt", 7, 2),
            Call.of("forget", 42), Call.of("told", 0));
    }

    /** As many versions as one object can end: 40, and then one for each that goes. */
    private static void mostVersions() {
        StatRows x = new StatRows();
        Model m = new Model();
        for (int i = 0; i < States.CALLS - 2; i++) {
            Call call = i < 41 || i % 2 == 0 ? Call.of("version") : Call.of("forget", m.told(2) - m.told(3) + 1);
            due.is("call " + (i + 1) + ": " + call, call.on(x), call.on(m));
        }
        due.is("call 511: versions that ended", x.told(2), m.told(2));
        due.is("call 512: versions that are kept", x.told(3), m.told(3));
    }

    /** LANGUAGE.md, rule 7: no call may ever throw, in any state. */
    private static void laterCallsEnd() {
        StatRows x = States.rowsAfter(run());
        int[] arguments = {Integer.MIN_VALUE, -1, 0, 1, 7, 8, 29, 30, 255, 256, Integer.MAX_VALUE};
        int answered = 0;
        for (int i = 0; i < CALLS_AFTER; i++) {
            int a = arguments[i % 11];
            int b = arguments[i / 11 % 11];
            int c = arguments[i / 121 % 11];
            Call.of(Call.NAMES[i % Call.NAMES.length], a, b, c).on(x);
            x.forget(x.told(2) - 1);
            answered++;
        }
        due.is("calls after the 512th that ended", answered, CALLS_AFTER);
    }
}
