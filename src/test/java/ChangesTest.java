/** Promises 1 to 3 and 19: a new object, triple, drop, told. */
public final class ChangesTest {
    private static final int[] WRONG_NUMBERS = {-1, 256, Integer.MIN_VALUE, Integer.MAX_VALUE};
    private static final int[] WRONG_PREDICATES = {-1, 8, Integer.MIN_VALUE, Integer.MAX_VALUE};

    private static final Due due = new Due();

    public static void main(String[] args) {
        newObject();
        triplesComeAndGo();
        wrongTriples();
        atMostFourHundred();
        objectsAreApart();
        toldAll();
        due.end();
    }

    private static void newObject() {
        StatRows x = new StatRows();
        for (int what = 0; what <= 3; what++) {
            due.is("new: told(" + what + ")", x.told(what), 0);
        }
        for (int p = 0; p < 8; p++) {
            due.is("new: count", x.count(p, 0), 0);
            due.is("new: quantile", x.quantile(p, 1), StatRows.NO);
            due.is("new: sample", x.sample(p, 0), StatRows.NO);
            due.is("new: countAt", x.countAt(p, 0), StatRows.BAD);
        }
        due.is("new: matches(0)", x.matches(0), StatRows.BAD);
        due.is("new: forget(0)", x.forget(0), StatRows.BAD);
        due.is("new: distinct", x.distinct(255, 0), 0);
        due.is("new: drop", x.drop(0, 0, 0), 0);
    }

    private static void triplesComeAndGo() {
        StatRows x = new StatRows();
        due.is("triple, least", x.triple(0, 0, 0), 1);
        due.is("triple, greatest", x.triple(255, 7, 255), 1);
        due.is("triple, there", x.triple(255, 7, 255), 0);
        due.is("told after two", x.told(0), 2);
        due.is("triple, other s", x.triple(1, 0, 0), 1);
        due.is("triple, other p", x.triple(0, 1, 0), 1);
        due.is("triple, other o", x.triple(0, 0, 1), 1);
        due.is("told after five", x.told(0), 5);
        due.is("drop, other s", x.drop(2, 0, 0), 0);
        due.is("drop, other p", x.drop(0, 2, 0), 0);
        due.is("drop, other o", x.drop(0, 0, 2), 0);
        due.is("told, none dropped", x.told(0), 5);
        due.is("drop", x.drop(0, 0, 0), 1);
        due.is("drop, gone", x.drop(0, 0, 0), 0);
        due.is("told after a drop", x.told(0), 4);
        due.is("the others stay", x.triple(0, 0, 1) + x.triple(1, 0, 0) + x.triple(0, 1, 0) + x.triple(255, 7, 255), 0);
        due.is("triple comes again", x.triple(0, 0, 0), 1);
        due.is("told after all", x.told(0), 5);
    }

    private static void wrongTriples() {
        StatRows x = new StatRows();
        for (int n : WRONG_NUMBERS) {
            due.is("triple, s " + n, x.triple(n, 0, 0), StatRows.BAD);
            due.is("triple, o " + n, x.triple(0, 0, n), StatRows.BAD);
            due.is("drop, s " + n, x.drop(n, 0, 0), StatRows.BAD);
            due.is("drop, o " + n, x.drop(0, 0, n), StatRows.BAD);
        }
        for (int p : WRONG_PREDICATES) {
            due.is("triple, p " + p, x.triple(0, p, 0), StatRows.BAD);
            due.is("drop, p " + p, x.drop(0, p, 0), StatRows.BAD);
        }
        due.is("nothing came", x.told(0), 0);
    }

    private static void atMostFourHundred() {
        StatRows x = new StatRows();
        for (int i = 0; i < 400; i++) {
            due.is("triple " + i, x.triple(i * 7 % 256, i % 8, (i * 11 + i / 256) % 256), 1);
        }
        due.is("FULL", x.triple(1, 0, 0), StatRows.FULL);
        due.is("there, though full", x.triple(7, 1, 11), 0);
        due.is("BAD, though full", x.triple(256, 0, 0), StatRows.BAD);
        due.is("told, full", x.told(0), 400);
        due.is("drop of none, full", x.drop(1, 0, 0), 0);
        due.is("drop, full", x.drop(7, 1, 11), 1);
        due.is("a place is free", x.triple(1, 0, 0), 1);
        due.is("FULL again", x.triple(7, 1, 11), StatRows.FULL);
        due.is("told, full again", x.told(0), 400);
    }

    private static void objectsAreApart() {
        StatRows x = new StatRows();
        StatRows y = new StatRows();
        x.triple(1, 1, 1);
        x.pattern(1, 1, 1);
        x.version();
        for (int what = 0; what <= 3; what++) {
            due.is("other object: told(" + what + ")", y.told(what), 0);
            due.is("object: told(" + what + ")", x.told(what), 1);
        }
        due.is("other object: count", y.count(1, 0), 0);
    }

    private static void toldAll() {
        StatRows x = new StatRows();
        x.triple(1, 2, 3);
        x.triple(1, 2, 4);
        x.triple(1, 2, 5);
        x.triple(1, 2, 6);
        x.drop(1, 2, 6);
        x.pattern(1, -1, -1);
        x.pattern(1, -1, 5);
        x.pattern(1, -1, -1);
        for (int i = 0; i < 6; i++) {
            x.version();
        }
        x.forget(2);
        due.is("told(0)", x.told(0), 3);
        due.is("told(1)", x.told(1), 2);
        due.is("told(2)", x.told(2), 6);
        due.is("told(3)", x.told(3), 4);
        due.is("told(-1)", x.told(-1), StatRows.BAD);
        due.is("told(4)", x.told(4), StatRows.BAD);
        due.is("told(least)", x.told(Integer.MIN_VALUE), StatRows.BAD);
    }
}
