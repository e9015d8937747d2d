/** The boundary cases of the terms TRIPLES and PREDICATE and of promises 1, 2, 3 and 19. */
public final class TripleLimitsTest {
    private static final Due due = new Due();

    public static void main(String[] args) {
        newObjectHasNoTriples();
        newObjectHasNoPatterns();
        newObjectHasNoVersions();
        subjectIsWithin();
        predicateIsWithin();
        objectIsWithin();
        allWrongAtOnce();
        tripleThereAndNot();
        dropThereAndNot();
        neighboursAreOthers();
        lastFreePlace();
        fullOfOnePredicate();
        fullOfAllPredicates();
        placeIsFreeAfterDrop();
        allGo();
        toldWhatIsWithin();
        toldAtEachLimit();
        due.end();
    }

    private static void newObjectHasNoTriples() {
        StatRows x = new StatRows();
        due.is("new: triples", x.told(0), 0);
        for (int p = 0; p < 8; p++) {
            for (int what = 0; what <= 2; what++) {
                due.is("new: count(" + p + ", " + what + ")", x.count(p, what), 0);
            }
            due.is("new: chain of " + p, x.chain(p, 7 - p), 0);
            due.is("new: chain of " + p + " alike", x.chain(p, p), 0);
            due.is("new: star of " + p, x.star(p, 7 - p), 0);
            due.is("new: star of " + p + " alike", x.star(p, p), 0);
            due.is("new: bucket of " + p, x.bucket(p, Integer.MIN_VALUE, Integer.MAX_VALUE), 0);
            due.is("new: range of " + p, x.range(p, Integer.MIN_VALUE, Integer.MAX_VALUE), 0);
            due.is("new: quantile 1 of " + p, x.quantile(p, 1), StatRows.NO);
            due.is("new: quantile 8 of " + p, x.quantile(p, 8), StatRows.NO);
            due.is("new: sample of " + p, x.sample(p, 0), StatRows.NO);
            for (int op = 0; op <= 4; op++) {
                due.is("new: estimate " + op + " of " + p, x.estimate(op, p, 7 - p), 0);
            }
            due.is("new: drop of " + p, x.drop(0, p, 0), 0);
        }
        for (int i = 0; i < 16; i++) {
            due.is("new: register " + i, x.register(255, i), 0);
        }
        due.is("new: distinct", x.distinct(255, 0), 0);
        due.is("new: triples, still", x.told(0), 0);
    }

    private static void newObjectHasNoPatterns() {
        StatRows x = new StatRows();
        due.is("new: patterns", x.told(1), 0);
        due.is("new: matches(0)", x.matches(0), StatRows.BAD);
        due.is("new: the first pattern", x.pattern(-1, -1, -1), 0);
        due.is("new: it has no triples", x.matches(0), 0);
    }

    private static void newObjectHasNoVersions() {
        StatRows x = new StatRows();
        due.is("new: versions that ended", x.told(2), 0);
        due.is("new: versions that are kept", x.told(3), 0);
        due.is("new: countAt(0, 0)", x.countAt(0, 0), StatRows.BAD);
        due.is("new: forget(0)", x.forget(0), StatRows.BAD);
        due.is("new: the first version", x.version(), 0);
        due.is("new: it had no triples", x.countAt(0, 0), 0);
    }

    private static void subjectIsWithin() {
        StatRows x = new StatRows();
        for (int s : Limits.inside(0, 255)) {
            due.is("drop, s " + s + ", not there", x.drop(s, 3, 100), 0);
            due.is("triple, s " + s, x.triple(s, 3, 100), 1);
            due.is("triple, s " + s + ", there", x.triple(s, 3, 100), 0);
            due.is("drop, s " + s, x.drop(s, 3, 100), 1);
        }
        for (int s : Limits.outside(0, 255)) {
            due.is("triple, s " + s, x.triple(s, 3, 100), StatRows.BAD);
            due.is("drop, s " + s, x.drop(s, 3, 100), StatRows.BAD);
        }
        due.is("no s came", x.told(0), 0);
    }

    private static void predicateIsWithin() {
        StatRows x = new StatRows();
        for (int p : Limits.inside(0, 7)) {
            due.is("drop, p " + p + ", not there", x.drop(50, p, 100), 0);
            due.is("triple, p " + p, x.triple(50, p, 100), 1);
            due.is("triple, p " + p + ", there", x.triple(50, p, 100), 0);
            due.is("drop, p " + p, x.drop(50, p, 100), 1);
        }
        for (int p : Limits.outside(0, 7)) {
            due.is("triple, p " + p, x.triple(50, p, 100), StatRows.BAD);
            due.is("drop, p " + p, x.drop(50, p, 100), StatRows.BAD);
        }
        due.is("no p came", x.told(0), 0);
    }

    private static void objectIsWithin() {
        StatRows x = new StatRows();
        for (int o : Limits.inside(0, 255)) {
            due.is("drop, o " + o + ", not there", x.drop(50, 3, o), 0);
            due.is("triple, o " + o, x.triple(50, 3, o), 1);
            due.is("triple, o " + o + ", there", x.triple(50, 3, o), 0);
            due.is("drop, o " + o, x.drop(50, 3, o), 1);
        }
        for (int o : Limits.outside(0, 255)) {
            due.is("triple, o " + o, x.triple(50, 3, o), StatRows.BAD);
            due.is("drop, o " + o, x.drop(50, 3, o), StatRows.BAD);
        }
        due.is("no o came", x.told(0), 0);
    }

    /** A wrong number must not be mended by another one: (1, 0) and (0, 256) are the same pair 256 s + o. */
    private static void allWrongAtOnce() {
        StatRows x = new StatRows();
        x.triple(1, 0, 0);
        due.is("triple, s 0 and o 256", x.triple(0, 0, 256), StatRows.BAD);
        due.is("drop, s 0 and o 256", x.drop(0, 0, 256), StatRows.BAD);
        due.is("triple, s 2 and o -256", x.triple(2, 0, -256), StatRows.BAD);
        due.is("drop, s 2 and o -256", x.drop(2, 0, -256), StatRows.BAD);
        due.is("triple, s 256 and o 0", x.triple(256, 0, 0), StatRows.BAD);
        due.is("triple, s 257 (1 in its low byte)", x.triple(257, 0, 0), StatRows.BAD);
        due.is("drop, s 257 (1 in its low byte)", x.drop(257, 0, 0), StatRows.BAD);
        for (int n : new int[] {Integer.MIN_VALUE, -1, 256, Integer.MAX_VALUE}) {
            due.is("triple, all " + n, x.triple(n, n, n), StatRows.BAD);
            due.is("drop, all " + n, x.drop(n, n, n), StatRows.BAD);
        }
        due.is("one is there", x.told(0), 1);
        due.is("it is the one that came", x.drop(1, 0, 0), 1);
    }

    private static void tripleThereAndNot() {
        StatRows x = new StatRows();
        due.is("the first triple", x.triple(0, 0, 0), 1);
        due.is("the first triple, there", x.triple(0, 0, 0), 0);
        due.is("one triple", x.told(0), 1);
        x.drop(0, 0, 0);
        due.is("the first triple, again", x.triple(0, 0, 0), 1);
    }

    private static void dropThereAndNot() {
        StatRows x = new StatRows();
        due.is("drop of none", x.drop(255, 7, 255), 0);
        x.triple(255, 7, 255);
        due.is("drop of the only one", x.drop(255, 7, 255), 1);
        due.is("drop of the only one, gone", x.drop(255, 7, 255), 0);
        due.is("no triple", x.told(0), 0);
    }

    /** The last pair of one s or p stands next to the first of the next one. */
    private static void neighboursAreOthers() {
        StatRows x = new StatRows();
        x.triple(4, 2, 255);
        due.is("drop, next s", x.drop(5, 2, 0), 0);
        due.is("triple, next s", x.triple(5, 2, 0), 1);
        x.triple(255, 2, 255);
        due.is("drop, next p", x.drop(0, 3, 0), 0);
        due.is("drop, same pair of the next p", x.drop(255, 3, 255), 0);
        due.is("drop, same pair of the p before", x.drop(4, 1, 255), 0);
        due.is("triple, next p", x.triple(0, 3, 0), 1);
        due.is("triple, same pair of the p before", x.triple(4, 1, 255), 1);
        due.is("COUNT before", x.count(1, 0), 1);
        due.is("COUNT", x.count(2, 0), 3);
        due.is("COUNT after", x.count(3, 0), 1);
    }

    private static void lastFreePlace() {
        StatRows x = new StatRows();
        for (int i = 0; i < 399; i++) {
            x.triple(i % 256, 0, i / 256);
        }
        due.is("399 triples", x.told(0), 399);
        due.is("at 399: one that is there", x.triple(0, 0, 0), 0);
        due.is("at 399: the last that is free", x.triple(255, 7, 255), 1);
        due.is("400 triples", x.told(0), 400);
        due.is("at 400: the one that came last", x.triple(255, 7, 255), 0);
        due.is("at 400: the first that is not", x.triple(254, 7, 255), StatRows.FULL);
        due.is("400 triples, still", x.told(0), 400);
        due.is("at 400: it did not come", x.drop(254, 7, 255), 0);
    }

    private static void fullOfOnePredicate() {
        StatRows x = new StatRows();
        for (int i = 0; i < 400; i++) {
            due.is("triple " + i + " of one p", x.triple(1 + i % 200, 4, 1 + i / 200), 1);
        }
        due.is("one p: COUNT", x.count(4, 0), 400);
        due.is("one p: the first is there", x.triple(1, 4, 1), 0);
        due.is("one p: the last is there", x.triple(200, 4, 2), 0);
        due.is("one p: before all", x.triple(0, 4, 0), StatRows.FULL);
        due.is("one p: between", x.triple(100, 4, 3), StatRows.FULL);
        due.is("one p: after all", x.triple(255, 4, 255), StatRows.FULL);
        due.is("one p: least of all p", x.triple(0, 0, 0), StatRows.FULL);
        due.is("one p: greatest of all p", x.triple(255, 7, 255), StatRows.FULL);
        due.is("one p: BAD", x.triple(256, 4, 0), StatRows.BAD);
        due.is("one p: COUNT, still", x.count(4, 0), 400);
        due.is("one p: triples, still", x.told(0), 400);
    }

    private static void fullOfAllPredicates() {
        StatRows x = new StatRows();
        for (int i = 0; i < 400; i++) {
            due.is("triple " + i + " of all p", x.triple(i / 8 * 5, i % 8, 255 - i / 8 * 5), 1);
        }
        for (int p = 0; p < 8; p++) {
            due.is("full: there, p " + p, x.triple(0, p, 255), 0);
            due.is("full: not there, p " + p, x.triple(255, p, 255), StatRows.FULL);
            due.is("full: drop of one not there, p " + p, x.drop(255, p, 255), 0);
            due.is("full: COUNT of " + p, x.count(p, 0), 50);
        }
        due.is("full: wrong s", x.triple(-1, 0, 255), StatRows.BAD);
        due.is("full: wrong p", x.triple(0, 8, 255), StatRows.BAD);
        due.is("full: wrong o", x.triple(0, 0, 256), StatRows.BAD);
        due.is("full: drop, wrong s", x.drop(-1, 0, 255), StatRows.BAD);
        due.is("full: triples", x.told(0), 400);
    }

    private static void placeIsFreeAfterDrop() {
        StatRows x = new StatRows();
        for (int i = 0; i < 400; i++) {
            x.triple(i / 8 * 5, i % 8, 0);
        }
        due.is("full", x.triple(1, 0, 0), StatRows.FULL);
        due.is("drop the first", x.drop(0, 0, 0), 1);
        due.is("in its place, the last of all", x.triple(255, 7, 255), 1);
        due.is("full again", x.triple(0, 0, 0), StatRows.FULL);
        due.is("drop the last", x.drop(255, 7, 255), 1);
        due.is("in its place, the first of all", x.triple(0, 0, 0), 1);
        due.is("full once more", x.triple(255, 7, 255), StatRows.FULL);
        due.is("400 triples", x.told(0), 400);
    }

    private static void allGo() {
        StatRows x = new StatRows();
        for (int i = 0; i < 200; i++) {
            x.triple(i, i % 8, i);
        }
        for (int i = 0; i < 200; i++) {
            due.is("drop " + i, x.drop(i, i % 8, i), 1);
        }
        due.is("all went", x.told(0), 0);
        due.is("a drop more", x.drop(0, 0, 0), 0);
        due.is("all went, still", x.told(0), 0);
        due.is("one comes again", x.triple(0, 0, 0), 1);
    }

    private static void toldWhatIsWithin() {
        StatRows x = new StatRows();
        for (int what : Limits.inside(0, 3)) {
            due.is("told(" + what + ")", x.told(what), 0);
        }
        for (int what : Limits.outside(0, 3)) {
            due.is("told(" + what + ")", x.told(what), StatRows.BAD);
        }
    }

    private static void toldAtEachLimit() {
        StatRows x = States.rowsAfter(States.full());
        due.is("triples at their limit", x.told(0), 400);
        due.is("patterns at their limit", x.told(1), 30);
        due.is("versions that ended", x.told(2), 43);
        due.is("versions that are kept, at their limit", x.told(3), 40);
        for (int what : Limits.outside(0, 3)) {
            due.is("told(" + what + ") at all limits", x.told(what), StatRows.BAD);
        }
    }
}
