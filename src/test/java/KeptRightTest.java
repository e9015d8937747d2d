import java.util.ArrayList;
import java.util.Collections;
import java.util.List;
import java.util.Random;

/** All that is known is kept right with each change: after each one everything is asked, in runs of many changes. */
public final class KeptRightTest {
    private static final int CHANGES = 90;

    private static final Due due = new Due();

    public static void main(String[] args) {
        afterEachChange();
        tripleThenDrop();
        dropThenTriple();
        orderIsOfNoMatter();
        patternsAndVersionsLeaveTriples();
        triplesLeaveVersionsAndNumbers();
        due.end();
    }

    /** Few different numbers, so that triples are met again, go, and join with others. */
    private static void afterEachChange() {
        List<Call> questions = Questions.all();
        List<Call> run = new ArrayList<>();
        Random random = new Random(8);
        for (int i = 0; i < CHANGES; i++) {
            run.add(change(random, i));
            String when = "after " + (i + 1) + " changes, the last " + run.get(i);
            Answers.compare(due, when, questions, Answers.after(run, questions), Answers.dueAfter(run, questions));
        }
    }

    private static Call change(Random random, int number) {
        int s = random.nextInt(6);
        int p = random.nextInt(3);
        int o = random.nextInt(6);
        return switch (random.nextInt(10)) {
            case 0, 1, 2, 3 -> Call.of("triple", s, p, o);
            case 4, 5, 6 -> Call.of("drop", s, p, o);
            case 7 -> Call.of("pattern", s - 1, p - 1, o - 1);
            case 8 -> Call.of("version");
            default -> Call.of("forget", random.nextInt(number / 10 + 1));
        };
    }

    private static void tripleThenDrop() {
        for (Call triple : States.calls("triple(0, 3, 0)", "triple(255, 3, 255)", "triple(3, 0, 5)", "triple(2, 0, 2)")) {
            Call drop = Call.of("drop", triple.a(), triple.b(), triple.c());
            leaveAll(Questions.all(), States.few(), List.of(triple, drop));
        }
    }

    private static void dropThenTriple() {
        for (List<Call> state : States.all().values()) {
            for (Call triple : state) {
                if (triple.name().equals("triple") && (triple.a() + triple.c()) % 40 == 0) {
                    Call drop = Call.of("drop", triple.a(), triple.b(), triple.c());
                    leaveAll(Questions.all(), state, List.of(drop, triple));
                }
            }
        }
    }

    private static void orderIsOfNoMatter() {
        List<Call> questions = Questions.ofTriples();
        List<Call> triples = new ArrayList<>(States.full());
        triples.removeIf(call -> !call.name().equals("triple"));
        long[] before = Answers.after(triples, questions);
        Random random = new Random(9);
        for (int i = 0; i < 10; i++) {
            Collections.shuffle(triples, random);
            Answers.compare(due, "order " + i, questions, Answers.after(triples, questions), before);
        }
    }

    private static void patternsAndVersionsLeaveTriples() {
        for (List<Call> state : List.of(States.few(), States.some(), States.fullOfOnePredicate())) {
            for (String change : new String[] {"pattern(1, 2, 3)", "pattern(-1, -1, -1)", "version()", "forget(0)"}) {
                leaveAll(Questions.ofTriples(), state, States.calls(change));
            }
        }
    }

    private static void triplesLeaveVersionsAndNumbers() {
        List<Call> questions = new ArrayList<>(Questions.all());
        questions.removeIf(call -> !List.of("countAt", "pattern", "version", "forget").contains(call.name()));
        for (List<Call> state : States.all().values()) {
            leaveAll(questions, state, States.calls("drop(0, 0, 0)"));
            leaveAll(questions, state, States.calls("drop(255, 7, 255)", "triple(6, 3, 6)"));
        }
    }

    private static void leaveAll(List<Call> questions, List<Call> state, List<Call> changes) {
        List<Call> run = new ArrayList<>(state);
        run.addAll(changes);
        Answers.compare(due, "after " + changes, questions, Answers.after(run, questions), Answers.after(state, questions));
    }
}
