import java.util.ArrayList;
import java.util.List;
import java.util.Map;
import java.util.Set;
import java.util.TreeMap;
import java.util.TreeSet;

/**
 * A call that only tells changes nothing: with it before each question, every answer is that of an object that never
 * had it, and it answers the same each time.
 */
public final class TellingCallsTest {
    /** With the call before each of them, these are as many calls as Answers has at once. */
    private static final int QUESTIONS_AT_ONCE = Answers.AT_ONCE / 2;

    private static final Due due = new Due();

    public static void main(String[] args) {
        Map<String, List<Call>> states = new TreeMap<>(States.all());
        states.put("few", States.few());
        for (Map.Entry<String, List<Call>> state : states.entrySet()) {
            changeNothing(state.getKey(), state.getValue());
        }
        allAreLookedAt();
        manyInARow();
        due.end();
    }

    private static void changeNothing(String when, List<Call> run) {
        List<Call> questions = Questions.all();
        long[] want = Answers.dueAfter(run, questions, QUESTIONS_AT_ONCE);
        for (Call call : tellingCalls()) {
            changesNothing(when + ", with " + call, run, call, questions, want);
        }
    }

    private static void changesNothing(String when, List<Call> run, Call call, List<Call> questions, long[] want) {
        long answer = call.on(States.modelAfter(run));
        for (int from = 0; from < want.length; from += QUESTIONS_AT_ONCE) {
            StatRows x = States.rowsAfter(run);
            int end = Math.min(want.length, from + QUESTIONS_AT_ONCE);
            boolean isAsBefore = true;
            for (int i = from; i < end; i++) {
                long again = call.on(x);
                due.isTrue(when + ", itself answered " + again + ", due is " + answer, again == answer || !isAsBefore);
                due.is(when + ": " + questions.get(i), questions.get(i).on(x), want[i]);
                isAsBefore = isAsBefore && questions.get(i).onlyTells();
            }
        }
    }

    /** Each call that tells, with what it can be asked for; all kinds of answers are among them. */
    private static List<Call> tellingCalls() {
        return States.calls(
            "count(0, 0)", "count(7, 1)", "count(7, 2)", "count(8, 0)",
            "chain(0, 1)", "chain(7, 7)", "chain(8, 0)", "star(0, 0)", "star(7, 1)", "star(0, 8)",
            "bucket(7, 0, 255)", "bucket(0, 3, 2)", "bucket(-1, 0, 255)",
            "quantile(7, 8)", "quantile(3, 1)", "quantile(0, 0)",
            "register(255, 2)", "register(128, 0)", "register(0, 0)", "register(0, 16)",
            "distinct(255, 0)", "distinct(129, 255)", "distinct(0, 0)", "distinct(255, -1)",
            "estimate(0, 0, 1)", "estimate(1, 7, 7)", "estimate(2, 0, 7)", "estimate(3, 7, 99)", "estimate(4, 0, 1)",
            "estimate(4, 7, 7)", "estimate(5, 0, 0)", "range(7, 0, 255)", "range(0, 1, 40)", "range(8, 0, 0)",
            "sample(7, 0)", "sample(0, 1)", "sample(0, 400)", "sample(8, 0)",
            "matches(0)", "matches(2)", "matches(29)", "matches(30)",
            "countAt(0, 0)", "countAt(7, 4)", "countAt(7, 42)", "countAt(0, 43)",
            "told(0)", "told(1)", "told(2)", "told(3)", "told(4)");
    }

    private static void allAreLookedAt() {
        Set<String> names = new TreeSet<>();
        for (Call call : tellingCalls()) {
            due.isTrue(call + " only tells", call.onlyTells());
            names.add(call.name());
        }
        due.is("calls that tell", names.size(), Call.NAMES.length - Call.CHANGES.size());
    }

    /** As many questions as an object is used for, and then the changes go on from where they were. */
    private static void manyInARow() {
        List<Call> questions = Questions.telling();
        for (int from = 0; from < questions.size(); from += 480) {
            List<Call> run = new ArrayList<>(States.few());
            run.addAll(questions.subList(from, Math.min(questions.size(), from + 480)));
            StatRows x = States.rowsAfter(run);
            due.is("after many questions: triple", x.triple(9, 3, 40), 1);
            due.is("after many questions: triple that is there", x.triple(4, 0, 2), 0);
            due.is("after many questions: drop", x.drop(4, 0, 5), 1);
            due.is("after many questions: pattern", x.pattern(8, 7, 6), 4);
            due.is("after many questions: version", x.version(), 2);
            due.is("after many questions: countAt", x.countAt(0, 2), 2);
            due.is("after many questions: forget", x.forget(2), 2);
            due.is("after many questions: triples", x.told(0), 6);
        }
    }
}
