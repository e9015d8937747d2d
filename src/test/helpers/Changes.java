import java.util.ArrayList;
import java.util.HashSet;
import java.util.List;
import java.util.Set;

/**
 * Changes of the state of States.few(), after some calls more, and what other calls show before and after each. Answers
 * are written as numbers or as BAD, NO, FULL.
 */
final class Changes {
    private final Due due;
    private final List<Call> run;
    private final Set<String> asked = new HashSet<>();

    Changes(Due due, String... more) {
        this.due = due;
        this.run = new ArrayList<>(States.few());
        this.run.addAll(States.calls(more));
    }

    /** The change is written with its answer, each row with the answers before the change and after it. */
    void shows(String what, String change, String... rows) {
        StatRows asksTwice = States.rowsAfter(run);
        StatRows asksAfter = States.rowsAfter(run);
        for (String row : rows) {
            due.is(what + ", before: " + row, call(row).on(asksTwice), answers(row)[0]);
        }
        due.is(what + ": " + change, call(change).on(asksTwice), answers(change)[0]);
        due.is(what + ": " + change, call(change).on(asksAfter), answers(change)[0]);
        for (String row : rows) {
            due.isTrue(row + " only tells", call(row).onlyTells());
            due.is(what + ", after: " + row, call(row).on(asksTwice), answers(row)[1]);
            due.is(what + ", after, not asked before: " + row, call(row).on(asksAfter), answers(row)[1]);
            asked.add(call(row).name());
        }
    }

    /** Calls one after the other, each written with its answer. */
    void go(String what, String... calls) {
        StatRows x = States.rowsAfter(run);
        for (String call : calls) {
            due.is(what + ": " + call, call(call).on(x), answers(call)[0]);
        }
    }

    /** Each call that only tells has been looked at. */
    void lookedAtAll() {
        for (String name : Call.NAMES) {
            due.isTrue(name + " was looked at", Call.CHANGES.contains(name) || asked.contains(name));
        }
    }

    private static Call call(String row) {
        return Call.read(row.substring(0, row.indexOf(')') + 1));
    }

    private static long[] answers(String row) {
        String[] words = row.substring(row.indexOf(')') + 2).split(" ");
        long[] answers = new long[words.length];
        for (int i = 0; i < words.length; i++) {
            answers[i] = answer(words[i]);
        }
        return answers;
    }

    private static long answer(String word) {
        return switch (word) {
            case "BAD" -> StatRows.BAD;
            case "NO" -> StatRows.NO;
            case "FULL" -> StatRows.FULL;
            default -> Long.parseLong(word);
        };
    }
}
