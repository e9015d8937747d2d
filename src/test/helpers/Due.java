/** Compares answers with what is due, and ends a test with exit code 1 when one differed. */
final class Due {
    private int compared = 0;
    private int wrong = 0;

    void is(String call, long got, long want) {
        compared++;
        if (got != want) {
            wrong++;
            System.out.println(call + " answered " + got + ", due is " + want);
        }
    }

    void isTrue(String what, boolean holds) {
        is(what, holds ? 1 : 0, 1);
    }

    void end() {
        System.out.println(compared + " answers, " + wrong + " of them wrong");
        if (wrong > 0 || compared == 0) {
            System.exit(1);
        }
    }
}
