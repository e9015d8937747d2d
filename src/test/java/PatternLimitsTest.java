/** The boundary cases of promises 14 and 15. */
public final class PatternLimitsTest {
    private static final Due due = new Due();

    public static void main(String[] args) {
        subjectIsWithin();
        predicateIsWithin();
        objectIsWithin();
        allWrongAtOnce();
        numbersStartAtZero();
        anyIsItsOwnPattern();
        patternsThereAndNot();
        lastFreeRow();
        atThirtyPatterns();
        rowIsWithin();
        rowIsWithinAtThirty();
        matchesOfNothing();
        matchesAtTheEnds();
        matchesOfFourHundred();
        due.end();
    }

    private static void subjectIsWithin() {
        StatRows x = new StatRows();
        due.is("pattern, s -1", x.pattern(-1, 3, 100), 0);
        due.is("pattern, s 0", x.pattern(0, 3, 100), 1);
        due.is("pattern, s 255", x.pattern(255, 3, 100), 2);
        for (int s : Limits.outside(-1, 255)) {
            due.is("pattern, s " + s, x.pattern(s, 3, 100), StatRows.BAD);
        }
        due.is("no pattern of a wrong s", x.told(1), 3);
    }

    private static void predicateIsWithin() {
        StatRows x = new StatRows();
        due.is("pattern, p -1", x.pattern(50, -1, 100), 0);
        due.is("pattern, p 0", x.pattern(50, 0, 100), 1);
        due.is("pattern, p 7", x.pattern(50, 7, 100), 2);
        for (int p : Limits.outside(-1, 7)) {
            due.is("pattern, p " + p, x.pattern(50, p, 100), StatRows.BAD);
        }
        due.is("no pattern of a wrong p", x.told(1), 3);
    }

    private static void objectIsWithin() {
        StatRows x = new StatRows();
        due.is("pattern, o -1", x.pattern(50, 3, -1), 0);
        due.is("pattern, o 0", x.pattern(50, 3, 0), 1);
        due.is("pattern, o 255", x.pattern(50, 3, 255), 2);
        for (int o : Limits.outside(-1, 255)) {
            due.is("pattern, o " + o, x.pattern(50, 3, o), StatRows.BAD);
        }
        due.is("no pattern of a wrong o", x.told(1), 3);
    }

    private static void allWrongAtOnce() {
        StatRows x = new StatRows();
        for (int n : Limits.outside(-1, 255)) {
            due.is("pattern, all " + n, x.pattern(n, n, n), StatRows.BAD);
            due.is("pattern, s and o " + n, x.pattern(n, 0, n), StatRows.BAD);
        }
        due.is("no pattern", x.told(1), 0);
    }

    private static void numbersStartAtZero() {
        StatRows x = new StatRows();
        due.is("the first number", x.pattern(9, 1, 9), 0);
        due.is("the first number, again", x.pattern(9, 1, 9), 0);
        due.is("the next number", x.pattern(9, 1, 8), 1);
        due.is("the first number, still", x.pattern(9, 1, 9), 0);
        due.is("two patterns", x.told(1), 2);
    }

    /** -1 is neither 0 nor 255, and goes with no number but -1 when a row is looked for. */
    private static void anyIsItsOwnPattern() {
        StatRows x = new StatRows();
        int[][] different = {
            {-1, -1, -1}, {0, -1, -1}, {-1, 0, -1}, {-1, -1, 0}, {0, 0, -1}, {0, -1, 0}, {-1, 0, 0}, {0, 0, 0},
            {255, -1, -1}, {-1, 7, -1}, {-1, -1, 255}, {255, 7, 255}
        };
        for (int row = 0; row < different.length; row++) {
            int[] asked = different[row];
            due.is("pattern " + row + ", new", x.pattern(asked[0], asked[1], asked[2]), row);
        }
        for (int row = 0; row < different.length; row++) {
            int[] asked = different[row];
            due.is("pattern " + row + ", shared", x.pattern(asked[0], asked[1], asked[2]), row);
        }
    }

    /** A pattern has its row whether or not triples go with it, and keeps it. */
    private static void patternsThereAndNot() {
        StatRows x = new StatRows();
        due.is("pattern of no triples", x.pattern(1, 1, 1), 0);
        x.triple(1, 1, 1);
        due.is("pattern of one triple", x.pattern(1, 1, 1), 0);
        x.drop(1, 1, 1);
        due.is("pattern when it went", x.pattern(1, 1, 1), 0);
        due.is("one pattern", x.told(1), 1);
    }

    private static void lastFreeRow() {
        StatRows x = new StatRows();
        for (int i = 0; i < 29; i++) {
            due.is("pattern " + i, x.pattern(i, -1, -1), i);
        }
        due.is("29 patterns", x.told(1), 29);
        due.is("at 29: one that is there", x.pattern(28, -1, -1), 28);
        due.is("at 29: the last that is free", x.pattern(29, -1, -1), 29);
        due.is("30 patterns", x.told(1), 30);
        due.is("at 30: the one that came last", x.pattern(29, -1, -1), 29);
        due.is("at 30: the first that is not", x.pattern(30, -1, -1), StatRows.FULL);
        due.is("30 patterns, still", x.told(1), 30);
    }

    private static void atThirtyPatterns() {
        StatRows x = new StatRows();
        for (int i = 0; i < 30; i++) {
            x.pattern(-1, i % 8, i);
        }
        for (int i = 0; i < 30; i++) {
            due.is("full: pattern " + i + " is there", x.pattern(-1, i % 8, i), i);
        }
        due.is("full: another s", x.pattern(0, 0, 0), StatRows.FULL);
        due.is("full: another p", x.pattern(-1, -1, 0), StatRows.FULL);
        due.is("full: another o", x.pattern(-1, 0, -1), StatRows.FULL);
        due.is("full: all any", x.pattern(-1, -1, -1), StatRows.FULL);
        due.is("full: wrong s", x.pattern(-2, 0, 0), StatRows.BAD);
        due.is("full: wrong p", x.pattern(-1, 8, 0), StatRows.BAD);
        due.is("full: wrong o", x.pattern(-1, 0, 256), StatRows.BAD);
        due.is("full: the one that was refused, again", x.pattern(0, 0, 0), StatRows.FULL);
        due.is("full: patterns", x.told(1), 30);
    }

    private static void rowIsWithin() {
        StatRows x = new StatRows();
        x.triple(1, 1, 1);
        for (int row : Limits.around(0, 0)) {
            due.is("matches(" + row + ") without patterns", x.matches(row), StatRows.BAD);
        }
        x.pattern(-1, -1, -1);
        due.is("matches of the only row", x.matches(0), 1);
        for (int row : Limits.outside(0, 0)) {
            due.is("matches(" + row + ") of one row", x.matches(row), StatRows.BAD);
        }
        x.pattern(2, -1, -1);
        due.is("matches of the last row", x.matches(1), 0);
        for (int row : Limits.outside(0, 1)) {
            due.is("matches(" + row + ") of two rows", x.matches(row), StatRows.BAD);
        }
    }

    private static void rowIsWithinAtThirty() {
        StatRows x = new StatRows();
        for (int i = 0; i < 30; i++) {
            x.triple(i, 7, 255);
            x.pattern(i, -1, -1);
        }
        x.pattern(30, -1, -1);
        for (int row = 0; row < 30; row++) {
            due.is("matches(" + row + ") of thirty", x.matches(row), 1);
        }
        for (int row : Limits.outside(0, 29)) {
            due.is("matches(" + row + ") of thirty", x.matches(row), StatRows.BAD);
        }
    }

    private static void matchesOfNothing() {
        StatRows x = new StatRows();
        x.pattern(-1, -1, -1);
        x.pattern(0, 0, 0);
        due.is("all any, no triples", x.matches(0), 0);
        due.is("the least, no triples", x.matches(1), 0);
        x.triple(0, 0, 0);
        due.is("all any, one triple", x.matches(0), 1);
        due.is("the least, one triple", x.matches(1), 1);
        x.drop(0, 0, 0);
        due.is("all any, when it went", x.matches(0), 0);
        due.is("the least, when it went", x.matches(1), 0);
    }

    private static void matchesAtTheEnds() {
        StatRows x = new StatRows();
        x.triple(0, 0, 0);
        x.triple(255, 7, 255);
        x.triple(255, 0, 0);
        x.triple(0, 7, 0);
        x.triple(0, 0, 255);
        int[][] patterns = {
            {0, 0, 0, 1}, {255, 7, 255, 1}, {0, -1, -1, 3}, {255, -1, -1, 2}, {-1, 0, -1, 3}, {-1, 7, -1, 2},
            {-1, -1, 0, 3}, {-1, -1, 255, 2}, {-1, -1, -1, 5}, {255, 7, 0, 0}
        };
        for (int row = 0; row < patterns.length; row++) {
            int[] asked = patterns[row];
            x.pattern(asked[0], asked[1], asked[2]);
            due.is("matches of the ends, " + row, x.matches(row), asked[3]);
        }
    }

    private static void matchesOfFourHundred() {
        StatRows x = new StatRows();
        for (int i = 0; i < 400; i++) {
            x.triple(i % 256, 7, i / 256);
        }
        x.pattern(-1, -1, -1);
        x.pattern(-1, 7, -1);
        x.pattern(-1, 0, -1);
        x.pattern(255, 7, 0);
        x.pattern(255, 7, 1);
        due.is("all any of 400", x.matches(0), 400);
        due.is("one predicate of 400", x.matches(1), 400);
        due.is("another predicate", x.matches(2), 0);
        due.is("one of 400", x.matches(3), 1);
        due.is("none of 400", x.matches(4), 0);
        x.triple(255, 7, 1);
        due.is("none of 400, since it was refused", x.matches(4), 0);
    }
}
