/** Promises 14 to 18: pattern, matches, version, countAt, forget. */
public final class PatternsAndVersionsTest {
    private static final int[] EXTREMES = {Integer.MIN_VALUE, Integer.MAX_VALUE};

    private static final Due due = new Due();

    public static void main(String[] args) {
        patternsShareRows();
        atMostThirtyPatterns();
        matches();
        versions();
        atMostFortyVersions();
        versionsRoundTheRing();
        due.end();
    }

    private static void patternsShareRows() {
        StatRows x = new StatRows();
        due.is("pattern, all any", x.pattern(-1, -1, -1), 0);
        due.is("pattern, least", x.pattern(0, 0, 0), 1);
        due.is("pattern, greatest", x.pattern(255, 7, 255), 2);
        due.is("pattern, s differs", x.pattern(1, 0, 0), 3);
        due.is("pattern, p differs", x.pattern(0, 1, 0), 4);
        due.is("pattern, o differs", x.pattern(0, 0, 1), 5);
        due.is("pattern, any s", x.pattern(-1, 0, 0), 6);
        due.is("pattern, any p", x.pattern(0, -1, 0), 7);
        due.is("pattern, any o", x.pattern(0, 0, -1), 8);
        due.is("pattern, shared", x.pattern(0, 0, 0), 1);
        due.is("pattern, any o, shared", x.pattern(0, 0, -1), 8);
        due.is("pattern, all any, shared", x.pattern(-1, -1, -1), 0);
        due.is("patterns", x.told(1), 9);
        due.is("pattern, s -2", x.pattern(-2, 0, 0), StatRows.BAD);
        due.is("pattern, s 256", x.pattern(256, 0, 0), StatRows.BAD);
        due.is("pattern, p -2", x.pattern(0, -2, 0), StatRows.BAD);
        due.is("pattern, p 8", x.pattern(0, 8, 0), StatRows.BAD);
        due.is("pattern, o -2", x.pattern(0, 0, -2), StatRows.BAD);
        due.is("pattern, o 256", x.pattern(0, 0, 256), StatRows.BAD);
        for (int n : EXTREMES) {
            due.is("pattern, s " + n, x.pattern(n, 0, 0), StatRows.BAD);
            due.is("pattern, p " + n, x.pattern(0, n, 0), StatRows.BAD);
            due.is("pattern, o " + n, x.pattern(0, 0, n), StatRows.BAD);
        }
        due.is("no pattern more", x.told(1), 9);
    }

    private static void atMostThirtyPatterns() {
        StatRows x = new StatRows();
        for (int i = 0; i < 30; i++) {
            due.is("pattern " + i, x.pattern(i, -1, 255 - i), i);
        }
        due.is("pattern, FULL", x.pattern(30, -1, 225), StatRows.FULL);
        due.is("pattern, shared though full", x.pattern(29, -1, 226), 29);
        due.is("pattern, BAD though full", x.pattern(256, -1, 0), StatRows.BAD);
        due.is("patterns, full", x.told(1), 30);
        due.is("matches(29)", x.matches(29), 0);
        due.is("matches(30)", x.matches(30), StatRows.BAD);
    }

    private static void matches() {
        StatRows x = new StatRows();
        x.triple(1, 2, 3);
        x.triple(1, 2, 4);
        x.triple(1, 5, 3);
        x.triple(9, 2, 3);
        int[][] patterns = {
            {-1, -1, -1, 4}, {1, -1, -1, 3}, {-1, 2, -1, 3}, {-1, -1, 3, 3},
            {1, 2, -1, 2}, {1, -1, 3, 2}, {-1, 2, 3, 2}, {1, 2, 3, 1}, {9, 5, 3, 0}
        };
        for (int row = 0; row < patterns.length; row++) {
            int[] asked = patterns[row];
            x.pattern(asked[0], asked[1], asked[2]);
            due.is("matches(" + row + ")", x.matches(row), asked[3]);
        }
        due.is("matches(-1)", x.matches(-1), StatRows.BAD);
        due.is("matches(9)", x.matches(9), StatRows.BAD);
        due.is("matches(least)", x.matches(Integer.MIN_VALUE), StatRows.BAD);
        due.is("matches(greatest)", x.matches(Integer.MAX_VALUE), StatRows.BAD);
        x.drop(1, 2, 3);
        due.is("matches(0) after a drop", x.matches(0), 3);
        due.is("matches(7) after a drop", x.matches(7), 0);
        x.triple(9, 5, 3);
        due.is("matches(8) after one came", x.matches(8), 1);
        x.triple(0, 0, 0);
        x.triple(255, 7, 255);
        due.is("matches(0), of the least and greatest too", x.matches(0), 6);
    }

    private static void versions() {
        StatRows x = new StatRows();
        due.is("countAt, none ended", x.countAt(0, 0), StatRows.BAD);
        x.triple(1, 0, 1);
        due.is("version 0", x.version(), 0);
        x.triple(1, 7, 1);
        x.triple(2, 7, 1);
        due.is("version 1", x.version(), 1);
        x.drop(1, 0, 1);
        due.is("countAt(0, 0)", x.countAt(0, 0), 1);
        due.is("countAt(7, 0)", x.countAt(7, 0), 0);
        due.is("countAt(0, 1)", x.countAt(0, 1), 1);
        due.is("countAt(7, 1)", x.countAt(7, 1), 2);
        due.is("version 2", x.version(), 2);
        due.is("countAt(0, 2)", x.countAt(0, 2), 0);
        due.is("countAt, version 3", x.countAt(0, 3), StatRows.BAD);
        due.is("countAt, version -1", x.countAt(0, -1), StatRows.BAD);
        due.is("countAt, p -1", x.countAt(-1, 0), StatRows.BAD);
        due.is("countAt, p 8", x.countAt(8, 0), StatRows.BAD);
        due.is("forget(0)", x.forget(0), 0);
        due.is("forget(-1)", x.forget(-1), StatRows.BAD);
        due.is("forget(3)", x.forget(3), StatRows.BAD);
        due.is("all are kept", x.told(3), 3);
        due.is("forget(2)", x.forget(2), 2);
        due.is("forget(2), again", x.forget(2), 0);
        due.is("forget(0), not kept", x.forget(0), 0);
        due.is("countAt(0, 1), not kept", x.countAt(0, 1), StatRows.NO);
        due.is("countAt(8, 1), not kept", x.countAt(8, 1), StatRows.BAD);
        due.is("countAt(7, 2), kept", x.countAt(7, 2), 2);
        due.is("version 3", x.version(), 3);
        due.is("ended", x.told(2), 4);
        due.is("kept", x.told(3), 2);
        for (int n : EXTREMES) {
            due.is("countAt, version " + n, x.countAt(0, n), StatRows.BAD);
            due.is("countAt, p " + n, x.countAt(n, 3), StatRows.BAD);
            due.is("forget(" + n + ")", x.forget(n), StatRows.BAD);
        }
    }

    private static void atMostFortyVersions() {
        StatRows x = new StatRows();
        for (int i = 0; i < 40; i++) {
            x.triple(i, 3, 0);
            due.is("version " + i, x.version(), i);
        }
        due.is("version, FULL", x.version(), StatRows.FULL);
        due.is("none ended", x.told(2), 40);
        due.is("forty are kept", x.told(3), 40);
        due.is("countAt(3, 40)", x.countAt(3, 40), StatRows.BAD);
        for (int i = 0; i < 40; i++) {
            due.is("countAt(3, " + i + ")", x.countAt(3, i), i + 1);
        }
        due.is("forget(1)", x.forget(1), 1);
        x.triple(0, 3, 1);
        due.is("version 40", x.version(), 40);
        due.is("version, FULL again", x.version(), StatRows.FULL);
        due.is("countAt(3, 0)", x.countAt(3, 0), StatRows.NO);
        due.is("countAt(3, 1)", x.countAt(3, 1), 2);
        due.is("countAt(3, 40) now", x.countAt(3, 40), 41);
        due.is("forget(40)", x.forget(40), 39);
        due.is("one is kept", x.told(3), 1);
    }

    private static void versionsRoundTheRing() {
        StatRows x = new StatRows();
        for (int i = 0; i < 100; i++) {
            x.triple(i, i % 8, 0);
            due.is("version " + i, x.version(), i);
            if (i >= 39) {
                due.is("forget below " + (i - 38), x.forget(i - 38), 1);
            }
        }
        due.is("39 are kept", x.told(3), 39);
        for (int i = 61; i < 100; i++) {
            due.is("countAt(0, " + i + ")", x.countAt(0, i), i / 8 + 1);
            due.is("countAt(7, " + i + ")", x.countAt(7, i), (i + 1) / 8);
        }
        due.is("countAt(0, 60)", x.countAt(0, 60), StatRows.NO);
    }
}
