/** Promises 9 to 13: register, distinct, estimate, range, sample. */
public final class EstimatesTest {
    private static final int[] WRONG = {-1, 8, Integer.MIN_VALUE, Integer.MAX_VALUE};
    private static final int[] WRONG_SETS = {-1, 256, Integer.MIN_VALUE, Integer.MAX_VALUE};

    /** The least s that is told to each register, 0 to 15. */
    private static final int[] LEAST_OF_REGISTER = {3, 12, 0, 13, 22, 2, 15, 27, 63, 7, 10, 8, 1, 9, 19, 5};

    private static final Due due = new Due();

    public static void main(String[] args) {
        registers();
        registersOfAll();
        distincts();
        aboutByZeros();
        aboutIsRoundedDown();
        estimates();
        estimatesOfSingles();
        sampledChains();
        ranges();
        rangesOfManyTriples();
        samples();
        due.end();
    }

    private static void registers() {
        StatRows x = new StatRows();
        x.triple(4, 1, 0);
        due.is("register 2, rank of 4", x.register(2, 2), 1);
        x.triple(0, 3, 0);
        due.is("register 2, not of 3", x.register(2, 2), 1);
        due.is("register 2, of 3", x.register(8, 2), 2);
        due.is("register 2, together", x.register(10, 2), 2);
        due.is("register 2, of all", x.register(255, 2), 2);
        due.is("register 2, of the others", x.register(255 - 10, 2), 0);
        due.is("register 2, of none", x.register(0, 2), 0);
        due.is("register 5, none told", x.register(255, 5), 0);
        x.triple(5, 7, 9);
        x.triple(5, 7, 8);
        due.is("register 15", x.register(128, 15), 4);
        x.drop(5, 7, 9);
        due.is("register 15, one is left", x.register(128, 15), 4);
        x.drop(5, 7, 8);
        due.is("register 15, all went", x.register(128, 15), 0);
        x.drop(0, 3, 0);
        due.is("register 2, the greatest went", x.register(10, 2), 1);
        for (int set : WRONG_SETS) {
            due.is("register of " + set, x.register(set, 0), StatRows.BAD);
        }
        due.is("register -1", x.register(0, -1), StatRows.BAD);
        due.is("register 16", x.register(0, 16), StatRows.BAD);
        due.is("register, greatest", x.register(0, Integer.MAX_VALUE), StatRows.BAD);
        due.is("register, least", x.register(0, Integer.MIN_VALUE), StatRows.BAD);
    }

    private static void registersOfAll() {
        int[] ranks = {6, 4, 5, 7, 4, 6, 5, 8, 5, 5, 7, 4, 2, 4, 5, 4};
        StatRows x = new StatRows();
        for (int s = 0; s < 256; s++) {
            x.triple(s, s % 8, 0);
        }
        for (int i = 0; i < 16; i++) {
            due.is("all s: register " + i, x.register(255, i), ranks[i]);
        }
        due.is("all s: distinct, known", x.distinct(255, 256), 256);
        due.is("all s: distinct, about", x.distinct(255, 255), 223);
        due.is("all s: distinct of one", x.distinct(1, 32), 32);
    }

    private static void distincts() {
        StatRows x = new StatRows();
        x.triple(1, 0, 1);
        x.triple(1, 0, 2);
        x.triple(1, 1, 2);
        x.triple(2, 1, 2);
        x.triple(3, 2, 2);
        due.is("distinct of 0", x.distinct(1, 1), 1);
        due.is("distinct of 0 and 1", x.distinct(3, 2), 2);
        due.is("distinct of 1 and 2", x.distinct(6, 3), 3);
        due.is("distinct of all, greatest bound", x.distinct(255, Integer.MAX_VALUE), 3);
        due.is("distinct of none", x.distinct(0, 0), 0);
        due.is("distinct of empty ones", x.distinct(248, 0), 0);
        due.is("distinct, bound -1", x.distinct(1, -1), StatRows.BAD);
        due.is("distinct, least bound", x.distinct(1, Integer.MIN_VALUE), StatRows.BAD);
        for (int set : WRONG_SETS) {
            due.is("distinct of " + set, x.distinct(set, 9), StatRows.BAD);
        }
        // 6 is told to the register that 5 is told to, so that two are about one.
        StatRows y = new StatRows();
        y.triple(5, 0, 0);
        y.triple(6, 0, 0);
        due.is("two in one register, known", y.distinct(1, 2), 2);
        due.is("two in one register, about", y.distinct(1, 1), 1);
    }

    private static void aboutByZeros() {
        long[] about = {1, 2, 3, 4, 5, 7, 9, 11, 13, 15, 18, 22, 26, 33, 44, 40};
        StatRows x = new StatRows();
        for (int i = 0; i < 16; i++) {
            x.triple(LEAST_OF_REGISTER[i], 6, i);
            due.is("distinct, " + (15 - i) + " registers are 0", x.distinct(64, 0), about[i]);
            due.is("distinct, at the bound", x.distinct(64, i + 1), i + 1);
        }
        for (int i = 15; i > 0; i--) {
            x.drop(LEAST_OF_REGISTER[i], 6, i);
            due.is("distinct after drops, " + i + " left", x.distinct(64, 0), about[i - 1]);
        }
    }

    /** ABOUT of these comes to 74.003 before it is rounded, so that a slight change of the formula shows. */
    private static void aboutIsRoundedDown() {
        StatRows x = new StatRows();
        for (int s = 29; s < 29 + 67; s++) {
            x.triple(s, 5, 0);
        }
        due.is("distinct, just above a whole number", x.distinct(32, 66), 74);
        due.is("distinct, known", x.distinct(32, 67), 67);
    }

    private static void estimates() {
        StatRows x = new StatRows();
        for (int i = 0; i < 10; i++) {
            x.triple(i % 5, 0, i);
            x.triple(i, 1, i % 2);
        }
        x.triple(200, 2, 5);
        x.triple(200, 2, 6);
        x.triple(200, 2, 7);
        x.triple(201, 2, 7);
        due.is("CHAIN by OBJECTS(p)", x.estimate(0, 0, 2), 4);
        due.is("CHAIN by SUBJECTS(q)", x.estimate(0, 1, 1), 10);
        due.is("CHAIN, rounded down", x.estimate(0, 2, 0), 8);
        due.is("CHAIN of none", x.estimate(0, 3, 4), 0);
        due.is("CHAIN of none and some", x.estimate(0, 3, 0), 0);
        due.is("STAR by SUBJECTS(p)", x.estimate(1, 0, 2), 8);
        due.is("STAR by SUBJECTS(q)", x.estimate(1, 2, 1), 4);
        due.is("STAR of none", x.estimate(1, 3, 3), 0);
        due.is("both together", x.estimate(2, 0, 2), 14);
        due.is("both alike", x.estimate(2, 2, 2), 8);
        due.is("a filter", x.estimate(3, 0, 0), 3);
        due.is("a filter, any q", x.estimate(3, 2, Integer.MIN_VALUE) + x.estimate(3, 2, 8), 2);
        for (int p : WRONG) {
            for (int op = 0; op <= 4; op++) {
                due.is("estimate " + op + " of p " + p, x.estimate(op, p, 0), StatRows.BAD);
                if (op != 3) {
                    due.is("estimate " + op + " of q " + p, x.estimate(op, 0, p), StatRows.BAD);
                }
            }
        }
        due.is("estimate, op -1", x.estimate(-1, 0, 0), StatRows.BAD);
        due.is("estimate, op 5", x.estimate(5, 0, 0), StatRows.BAD);
        due.is("estimate, op 5, any q", x.estimate(5, 0, 9), StatRows.BAD);
    }

    private static void estimatesOfSingles() {
        StatRows x = new StatRows();
        x.triple(1, 0, 2);
        x.triple(2, 7, 3);
        due.is("CHAIN of one and one", x.estimate(0, 0, 7), 1);
        due.is("STAR of one and one", x.estimate(1, 7, 0), 1);
        due.is("a filter on one", x.estimate(3, 7, 7), 0);
        x.drop(2, 7, 3);
        due.is("CHAIN of one and none", x.estimate(0, 0, 7), 0);
        due.is("both of one and none", x.estimate(2, 0, 7), 1);
    }

    /** The samples have, of these, the pairs (0, 3), (0, 1), (3, 2), (3, 12) and (2, 0), but not (0, 2) and (3, 3). */
    private static void sampledChains() {
        StatRows x = new StatRows();
        x.triple(0, 4, 3);
        x.triple(0, 4, 1);
        x.triple(0, 4, 2);
        x.triple(3, 5, 2);
        x.triple(3, 5, 12);
        x.triple(3, 5, 3);
        x.triple(2, 5, 0);
        due.is("the chains", x.chain(4, 5), 4);
        due.is("CHAIN by SAMPLES", x.estimate(4, 4, 5), 32);
        due.is("the chains, the other way", x.chain(5, 4), 3);
        due.is("CHAIN by SAMPLES, the other way", x.estimate(4, 5, 4), 32);
        due.is("CHAIN by SAMPLES of none", x.estimate(4, 0, 1), 0);
        x.drop(3, 5, 12);
        due.is("CHAIN by SAMPLES after a drop", x.estimate(4, 4, 5), 16);
    }

    private static void ranges() {
        StatRows x = new StatRows();
        for (int i = 0; i < 3; i++) {
            x.triple(i, 0, 0);
            x.triple(i, 0, 31);
            x.triple(i, 0, 32);
            x.triple(i, 0, 255);
        }
        due.is("range of all", x.range(0, 0, 255), 12);
        due.is("range of the first", x.range(0, 0, 31), 6);
        due.is("range of the second", x.range(0, 32, 63), 3);
        due.is("range of half", x.range(0, 8, 23), 3);
        due.is("range, rounded down", x.range(0, 0, 15) + x.range(0, 32, 47), 4);
        due.is("range, each rounded down", x.range(0, 26, 41), 1 + 0);
        due.is("range of one number", x.range(0, 0, 0), 0);
        due.is("range of empty ones", x.range(0, 64, 223), 0);
        due.is("range of the last", x.range(0, 224, 255), 3);
        due.is("range of all ints", x.range(0, Integer.MIN_VALUE, Integer.MAX_VALUE), 12);
        due.is("range, turned round", x.range(0, Integer.MAX_VALUE, Integer.MIN_VALUE), 0);
        due.is("range, from is greater", x.range(0, 20, 10), 0);
        due.is("range below", x.range(0, Integer.MIN_VALUE, -1), 0);
        due.is("range beyond", x.range(0, 256, Integer.MAX_VALUE), 0);
        due.is("range of another", x.range(1, 0, 255), 0);
        x.drop(0, 0, 0);
        due.is("range after a drop", x.range(0, 0, 31), 5);
        for (int p : WRONG) {
            due.is("range of " + p, x.range(p, 0, 255), StatRows.BAD);
        }
    }

    private static void rangesOfManyTriples() {
        StatRows x = new StatRows();
        for (int s = 0; s < 40; s++) {
            x.triple(s, 7, 70);
        }
        for (int s = 0; s < 33; s++) {
            x.triple(s, 7, 100);
        }
        due.is("range of one number of forty", x.range(7, 64, 64), 1);
        due.is("range of one number, the last", x.range(7, 95, 95), 1);
        due.is("range, one of each of two", x.range(7, 95, 96), 2);
        due.is("range, one short of the first", x.range(7, 65, 95), 38);
        due.is("range, one short of the last", x.range(7, 64, 94), 38);
        due.is("range of both", x.range(7, 64, 127), 73);
        due.is("range before both", x.range(7, 0, 63), 0);
        due.is("range after both", x.range(7, 128, 255), 0);
        due.is("range of many, turned round", x.range(7, Integer.MAX_VALUE, Integer.MIN_VALUE), 0);
        due.is("range of many, from is one greater", x.range(7, 80, 79), 0);
    }

    private static void samples() {
        StatRows x = new StatRows();
        x.triple(3, 7, 12);
        x.triple(0, 7, 22);
        x.triple(0, 7, 3);
        x.triple(0, 7, 2);
        x.triple(3, 7, 2);
        x.triple(0, 6, 1);
        due.is("sample 0", x.sample(7, 0), 3);
        due.is("sample 1", x.sample(7, 1), 22);
        due.is("sample 2", x.sample(7, 2), 770);
        due.is("sample 3", x.sample(7, 3), 780);
        due.is("sample 4", x.sample(7, 4), StatRows.NO);
        due.is("sample -1", x.sample(7, -1), StatRows.NO);
        due.is("sample, least", x.sample(7, Integer.MIN_VALUE), StatRows.NO);
        due.is("sample, greatest", x.sample(7, Integer.MAX_VALUE), StatRows.NO);
        due.is("sample of another", x.sample(6, 0), 1);
        x.drop(0, 7, 22);
        due.is("sample 1 after a drop", x.sample(7, 1), 770);
        due.is("sample 3 after a drop", x.sample(7, 3), StatRows.NO);
        for (int p : WRONG) {
            due.is("sample of " + p, x.sample(p, 0), StatRows.BAD);
            due.is("sample -1 of " + p, x.sample(p, -1), StatRows.BAD);
        }
    }
}
