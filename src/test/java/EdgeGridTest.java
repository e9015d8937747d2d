import java.util.List;
import java.util.Map;

/** Each call with every mix of arguments at their limits and at the ends of int, in each state, as the Model has it. */
public final class EdgeGridTest {
    private static final Due due = new Due();

    public static void main(String[] args) {
        for (Map.Entry<String, List<Call>> state : States.all().entrySet()) {
            for (String name : Call.NAMES) {
                List<Call> calls = Grid.of(name);
                long[] got = Answers.after(state.getValue(), calls);
                Answers.compare(due, state.getKey(), calls, got, Answers.dueAfter(state.getValue(), calls));
            }
        }
        due.end();
    }
}
