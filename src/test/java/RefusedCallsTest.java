import java.util.ArrayList;
import java.util.HashSet;
import java.util.List;
import java.util.Map;
import java.util.Set;

/**
 * After a call that was refused (BAD, NO, FULL) or that changed nothing (0 of triple, drop and forget) every other
 * answer is as it was before: it is that of an object that never had the call.
 */
public final class RefusedCallsTest {
    private static final Set<String> REFUSALS = Set.of(
        "triple -1", "triple -3", "drop -1", "count -1", "chain -1", "star -1", "bucket -1", "quantile -1", "quantile -2",
        "register -1", "distinct -1", "estimate -1", "range -1", "sample -1", "sample -2", "pattern -1", "pattern -3",
        "matches -1", "version -3", "countAt -1", "countAt -2", "forget -1", "told -1");

    private static final Due due = new Due();
    private static final Set<String> seen = new HashSet<>();

    public static void main(String[] args) {
        List<Call> questions = Questions.all();
        for (Map.Entry<String, List<Call>> state : States.all().entrySet()) {
            due.isTrue(state.getKey() + ": the run is short enough",
                state.getValue().size() + 1 + Answers.AT_ONCE <= States.CALLS);
            long[] before = Answers.after(state.getValue(), questions);
            Answers.compare(due, state.getKey(), questions, before, Answers.dueAfter(state.getValue(), questions));
            for (Call call : quietCalls()) {
                leavesAllAsItWas(state, call, questions, before);
            }
        }
        due.isTrue("all refusals of the document came, and no others: " + seen, seen.equals(REFUSALS));
        refusedInARow();
        due.end();
    }

    private static void leavesAllAsItWas(
            Map.Entry<String, List<Call>> state, Call call, List<Call> questions, long[] before) {
        long answer = call.on(States.rowsAfter(state.getValue()));
        due.is(state.getKey() + ": " + call, answer, call.on(States.modelAfter(state.getValue())));
        if (answer > 0 || answer == 0 && !isChange(call)) {
            return;
        }
        if (answer < 0) {
            seen.add(call.name() + " " + answer);
        }
        List<Call> run = new ArrayList<>(state.getValue());
        run.add(call);
        Answers.compare(due, state.getKey() + ", after " + call, questions, Answers.after(run, questions), before);
    }

    private static boolean isChange(Call call) {
        return List.of("triple", "drop", "forget").contains(call.name());
    }

    /** Calls that are refused, or change nothing, in one state or another. */
    private static List<Call> quietCalls() {
        List<Call> calls = new ArrayList<>();
        for (String change : new String[] {"triple", "drop"}) {
            for (int n : Limits.outside(0, 255)) {
                calls.add(Call.of(change, n, 0, 0));
                calls.add(Call.of(change, 0, 0, n));
            }
            for (int p : Limits.outside(0, 7)) {
                calls.add(Call.of(change, 0, p, 0));
            }
        }
        calls.add(Call.of("triple", 0, 0, 0));
        calls.add(Call.of("triple", 255, 7, 255));
        calls.add(Call.of("triple", 3, 3, 3));
        calls.add(Call.of("drop", 3, 3, 3));
        calls.add(Call.of("drop", 0, 6, 255));
        quietQuestions(calls);
        for (int n : Limits.outside(-1, 255)) {
            calls.add(Call.of("pattern", n, 0, 0));
            calls.add(Call.of("pattern", 0, 0, n));
        }
        calls.add(Call.of("pattern", 0, -2, 0));
        calls.add(Call.of("pattern", 0, 8, 0));
        calls.add(Call.of("pattern", 100, 7, 100));
        calls.add(Call.of("version"));
        for (int version : new int[] {Integer.MIN_VALUE, -1, 0, 2, 3, 5, 43, Integer.MAX_VALUE}) {
            calls.add(Call.of("forget", version));
            calls.add(Call.of("countAt", 0, version));
        }
        return calls;
    }

    private static void quietQuestions(List<Call> calls) {
        for (int wrong : new int[] {-1, 8}) {
            calls.add(Call.of("count", wrong, 0));
            calls.add(Call.of("chain", wrong, 0));
            calls.add(Call.of("chain", 0, wrong));
            calls.add(Call.of("star", wrong, 0));
            calls.add(Call.of("star", 0, wrong));
            calls.add(Call.of("bucket", wrong, 0, 255));
            calls.add(Call.of("quantile", wrong, 1));
            calls.add(Call.of("estimate", 0, wrong, 0));
            calls.add(Call.of("estimate", 4, 0, wrong));
            calls.add(Call.of("range", wrong, 0, 255));
            calls.add(Call.of("sample", wrong, 0));
            calls.add(Call.of("countAt", wrong, 0));
        }
        calls.add(Call.of("count", 0, 3));
        calls.add(Call.of("quantile", 0, 9));
        calls.add(Call.of("quantile", 3, 1));
        calls.add(Call.of("register", 256, 0));
        calls.add(Call.of("register", 255, 16));
        calls.add(Call.of("distinct", 256, 0));
        calls.add(Call.of("distinct", 255, -1));
        calls.add(Call.of("estimate", 5, 0, 0));
        calls.add(Call.of("sample", 0, -1));
        calls.add(Call.of("sample", 0, 400));
        calls.add(Call.of("matches", -1));
        calls.add(Call.of("matches", 30));
        calls.add(Call.of("told", 4));
    }

    /** Many refused calls one after the other add up to nothing. */
    private static void refusedInARow() {
        StatRows x = new StatRows();
        x.triple(1, 2, 3);
        for (Call call : quietCalls()) {
            boolean isWrong = call.on(new StatRows()) == StatRows.BAD;
            if (isWrong && !call.name().equals("forget")) {
                due.is("in a row: " + call, call.on(x), StatRows.BAD);
            }
        }
        due.is("in a row: triples", x.told(0), 1);
        due.is("in a row: patterns", x.told(1), 0);
        due.is("in a row: versions", x.told(2), 0);
        due.is("in a row: the first version", x.version(), 0);
        due.is("in a row: the first pattern", x.pattern(1, 2, 3), 0);
        due.is("in a row: what goes with it", x.matches(0), 1);
    }
}
