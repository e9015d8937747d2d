/** The boundary cases of promises 16, 17 and 18. */
public final class VersionLimitsTest {
    private static final Due due = new Due();

    public static void main(String[] args) {
        numbersStartAtZero();
        lastFreeVersion();
        refusedVersionUsesNoNumber();
        forgettingNoneFreesNone();
        numbersAreNotUsedAgain();
        countAtPredicateIsWithin();
        countAtVersionIsWithin();
        countAtNotKept();
        countAtIsAsItWas();
        countAtOfNothingAndOfAll();
        forgetVersionIsWithin();
        forgetWithoutVersions();
        forgetIsBelowOne();
        forgetNotKept();
        forgetTheLast();
        forgetAtForty();
        due.end();
    }

    private static StatRows withVersions(int ended) {
        StatRows x = new StatRows();
        for (int i = 0; i < ended; i++) {
            x.triple(i, 3, 0);
            x.version();
        }
        return x;
    }

    private static void numbersStartAtZero() {
        StatRows x = new StatRows();
        due.is("the first version", x.version(), 0);
        due.is("the next version, without a change", x.version(), 1);
        due.is("two ended", x.told(2), 2);
        due.is("two are kept", x.told(3), 2);
    }

    private static void lastFreeVersion() {
        StatRows x = withVersions(39);
        due.is("39 are kept", x.told(3), 39);
        due.is("at 39: a version ends", x.version(), 39);
        due.is("40 are kept", x.told(3), 40);
        due.is("at 40: FULL", x.version(), StatRows.FULL);
        due.is("at 40: FULL again", x.version(), StatRows.FULL);
        due.is("40 ended", x.told(2), 40);
        due.is("40 are kept, still", x.told(3), 40);
    }

    private static void refusedVersionUsesNoNumber() {
        StatRows x = withVersions(40);
        x.triple(200, 3, 0);
        due.is("at 40: FULL", x.version(), StatRows.FULL);
        due.is("the refused one is no version", x.countAt(3, 40), StatRows.BAD);
        due.is("forget up to the refused one", x.forget(40), StatRows.BAD);
        for (int v = 0; v < 40; v++) {
            due.is("version " + v + " is as it was", x.countAt(3, v), v + 1);
        }
        due.is("one goes", x.forget(1), 1);
        due.is("the number that is due", x.version(), 40);
        due.is("its count", x.countAt(3, 40), 41);
        due.is("the oldest kept one is as it was", x.countAt(3, 1), 2);
        due.is("FULL again", x.version(), StatRows.FULL);
    }

    private static void forgettingNoneFreesNone() {
        StatRows x = withVersions(40);
        due.is("forget below the first", x.forget(0), 0);
        due.is("still FULL", x.version(), StatRows.FULL);
        due.is("forget all but the last", x.forget(39), 39);
        for (int v = 40; v < 79; v++) {
            due.is("version " + v, x.version(), v);
        }
        due.is("FULL at 40 once more", x.version(), StatRows.FULL);
        due.is("79 ended", x.told(2), 79);
        due.is("40 are kept", x.told(3), 40);
    }

    private static void numbersAreNotUsedAgain() {
        StatRows x = new StatRows();
        for (int v = 0; v < 120; v++) {
            due.is("version " + v, x.version(), v);
            if (v > 0) {
                due.is("forget(" + v + ")", x.forget(v), 1);
                due.is("countAt(0, " + (v - 1) + ")", x.countAt(0, v - 1), StatRows.NO);
            }
        }
        due.is("120 ended", x.told(2), 120);
        due.is("one is kept", x.told(3), 1);
        due.is("the first is not kept", x.countAt(0, 0), StatRows.NO);
        due.is("the last is kept", x.countAt(0, 119), 0);
    }

    private static void countAtPredicateIsWithin() {
        StatRows x = new StatRows();
        x.triple(1, 0, 1);
        x.triple(1, 7, 1);
        x.version();
        x.version();
        x.forget(1);
        for (int p : Limits.inside(0, 7)) {
            due.is("countAt(" + p + ", 1)", x.countAt(p, 1), 1);
            due.is("countAt(" + p + ", 0)", x.countAt(p, 0), StatRows.NO);
        }
        for (int p : Limits.outside(0, 7)) {
            due.is("countAt(" + p + ", 1), kept", x.countAt(p, 1), StatRows.BAD);
            due.is("countAt(" + p + ", 0), not kept", x.countAt(p, 0), StatRows.BAD);
            due.is("countAt(" + p + ", 2), no version", x.countAt(p, 2), StatRows.BAD);
        }
    }

    private static void countAtVersionIsWithin() {
        StatRows x = new StatRows();
        for (int version : Limits.around(0, 0)) {
            due.is("countAt(3, " + version + ") without versions", x.countAt(3, version), StatRows.BAD);
        }
        x = withVersions(3);
        due.is("countAt of the first", x.countAt(3, 0), 1);
        due.is("countAt of the last", x.countAt(3, 2), 3);
        for (int version : Limits.outside(0, 2)) {
            due.is("countAt(3, " + version + ") of three", x.countAt(3, version), StatRows.BAD);
        }
    }

    private static void countAtNotKept() {
        StatRows x = withVersions(5);
        x.forget(3);
        due.is("countAt, the last that is not kept", x.countAt(3, 2), StatRows.NO);
        due.is("countAt, the first that is not kept", x.countAt(3, 0), StatRows.NO);
        due.is("countAt, the first that is kept", x.countAt(3, 3), 4);
        due.is("countAt, the last that is kept", x.countAt(3, 4), 5);
        due.is("countAt, the first that has not ended", x.countAt(3, 5), StatRows.BAD);
        due.is("countAt, -1", x.countAt(3, -1), StatRows.BAD);
    }

    private static void countAtIsAsItWas() {
        StatRows x = new StatRows();
        x.triple(1, 2, 1);
        x.triple(2, 2, 1);
        x.version();
        x.drop(1, 2, 1);
        due.is("after a drop", x.countAt(2, 0), 2);
        x.drop(2, 2, 1);
        due.is("when all went", x.countAt(2, 0), 2);
        x.version();
        x.triple(9, 2, 1);
        due.is("after one came", x.countAt(2, 1), 0);
        due.is("the older one", x.countAt(2, 0), 2);
        due.is("another predicate", x.countAt(3, 0), 0);
    }

    private static void countAtOfNothingAndOfAll() {
        StatRows x = new StatRows();
        x.version();
        for (int i = 0; i < 400; i++) {
            x.triple(i % 200, 7, i / 200);
        }
        x.version();
        x.triple(255, 7, 255);
        x.version();
        for (int p = 0; p < 7; p++) {
            due.is("countAt(" + p + ", 0)", x.countAt(p, 0), 0);
            due.is("countAt(" + p + ", 1)", x.countAt(p, 1), 0);
        }
        due.is("countAt of nothing", x.countAt(7, 0), 0);
        due.is("countAt of 400", x.countAt(7, 1), 400);
        due.is("countAt of 400, after one was refused", x.countAt(7, 2), 400);
    }

    private static void forgetVersionIsWithin() {
        StatRows x = withVersions(3);
        for (int version : Limits.outside(0, 2)) {
            due.is("forget(" + version + ") of three", x.forget(version), StatRows.BAD);
            due.is("three are kept", x.told(3), 3);
        }
        due.is("forget(0), the first", x.forget(0), 0);
        due.is("forget(2), the last", x.forget(2), 2);
    }

    private static void forgetWithoutVersions() {
        StatRows x = new StatRows();
        for (int version : Limits.around(0, 0)) {
            due.is("forget(" + version + ") without versions", x.forget(version), StatRows.BAD);
        }
        due.is("none ended", x.told(2), 0);
        due.is("none is kept", x.told(3), 0);
    }

    private static void forgetIsBelowOne() {
        StatRows x = withVersions(4);
        due.is("forget(1)", x.forget(1), 1);
        due.is("the one below is not kept", x.countAt(3, 0), StatRows.NO);
        due.is("the one itself is kept", x.countAt(3, 1), 2);
        due.is("three are kept", x.told(3), 3);
        due.is("four ended", x.told(2), 4);
    }

    /** A version that is not kept any more is a version still: it is no BAD one. */
    private static void forgetNotKept() {
        StatRows x = withVersions(5);
        x.forget(3);
        due.is("forget(3), again", x.forget(3), 0);
        due.is("forget(2), not kept", x.forget(2), 0);
        due.is("forget(0), not kept", x.forget(0), 0);
        due.is("the kept ones stay", x.countAt(3, 3), 4);
        due.is("none comes back", x.countAt(3, 2), StatRows.NO);
        due.is("two are kept", x.told(3), 2);
        due.is("forget(4) tells those that were kept", x.forget(4), 1);
    }

    private static void forgetTheLast() {
        StatRows x = withVersions(1);
        due.is("forget(0) of one", x.forget(0), 0);
        due.is("forget(1) of one", x.forget(1), StatRows.BAD);
        due.is("it is kept", x.countAt(3, 0), 1);
        x.version();
        due.is("forget(1) of two", x.forget(1), 1);
        due.is("forget(2) of two", x.forget(2), StatRows.BAD);
        due.is("one is kept", x.told(3), 1);
    }

    private static void forgetAtForty() {
        StatRows x = withVersions(40);
        due.is("forget(40) of forty", x.forget(40), StatRows.BAD);
        due.is("forget(-1) of forty", x.forget(-1), StatRows.BAD);
        due.is("forty are kept", x.told(3), 40);
        due.is("forget(39) of forty", x.forget(39), 39);
        due.is("the last is kept", x.countAt(3, 39), 40);
        due.is("the one before is not", x.countAt(3, 38), StatRows.NO);
        due.is("one is kept", x.told(3), 1);
    }
}
