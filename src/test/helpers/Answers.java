import java.util.List;

/** What an object answers after a run of calls. Each few questions are put to a new object, since it is used for few calls. */
final class Answers {
    /** So many calls after the longest of the runs of States are still within what an object is used for. */
    static final int AT_ONCE = 30;

    private Answers() { }

    static long[] after(List<Call> run, List<Call> questions) {
        long[] answers = new long[questions.size()];
        for (int from = 0; from < answers.length; from += AT_ONCE) {
            StatRows x = States.rowsAfter(run);
            int end = Math.min(answers.length, from + AT_ONCE);
            for (int i = from; i < end; i++) {
                answers[i] = questions.get(i).on(x);
            }
        }
        return answers;
    }

    static long[] dueAfter(List<Call> run, List<Call> questions) {
        return dueAfter(run, questions, AT_ONCE);
    }

    static long[] dueAfter(List<Call> run, List<Call> questions, int atOnce) {
        long[] answers = new long[questions.size()];
        for (int from = 0; from < answers.length; from += atOnce) {
            Model m = States.modelAfter(run);
            int end = Math.min(answers.length, from + atOnce);
            for (int i = from; i < end; i++) {
                answers[i] = questions.get(i).on(m);
            }
        }
        return answers;
    }

    static void compare(Due due, String when, List<Call> questions, long[] got, long[] want) {
        for (int i = 0; i < got.length; i++) {
            due.is(when + ": " + questions.get(i), got[i], want[i]);
        }
    }
}
