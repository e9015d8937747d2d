/** Promise 3: what each call that tells shows before a triple goes, and after it. */
public final class AfterDropTest {
    private static final Due due = new Due();
    private static final Changes changes = new Changes(due);

    public static void main(String[] args) {
        lastOfItsPredicate();
        patternsAndVersionsStay();
        subjectAndObjectStay();
        subjectAndObjectGo();
        ofTheSample();
        lesserRankIsLeft();
        sameNumbersOfAnotherPredicate();
        notThere();
        allGo();
        changes.lookedAtAll();
        due.end();
    }

    private static void lastOfItsPredicate() {
        changes.shows("last of its predicate", "drop(2, 7, 200) 1",
            "told(0) 6 5", "count(7, 0) 1 0", "count(7, 1) 1 0", "count(7, 2) 1 0", "count(1, 0) 2 2",
            "chain(0, 7) 2 0", "chain(0, 1) 3 3", "star(7, 7) 1 0", "star(1, 7) 1 0",
            "bucket(7, 200, 200) 1 0", "bucket(7, 0, 255) 1 0", "quantile(7, 1) 200 NO", "quantile(7, 8) 200 NO",
            "register(128, 5) 4 0", "register(255, 5) 4 4", "distinct(128, 9) 1 0", "distinct(255, 9) 4 4",
            "estimate(0, 0, 7) 1 0", "estimate(1, 7, 7) 1 0", "estimate(2, 0, 7) 4 3", "range(7, 192, 223) 1 0",
            "matches(0) 6 5", "matches(2) 2 1", "matches(1) 3 3");
    }

    private static void patternsAndVersionsStay() {
        changes.shows("patterns and versions stay", "drop(2, 1, 6) 1",
            "told(1) 4 4", "told(2) 2 2", "told(3) 2 2", "matches(3) 1 0", "matches(4) BAD BAD",
            "count(1, 0) 2 1", "countAt(1, 0) 0 0", "countAt(1, 1) 2 2", "countAt(1, 2) BAD BAD");
    }

    private static void subjectAndObjectStay() {
        changes.shows("s and o stay", "drop(4, 0, 2) 1",
            "count(0, 0) 3 2", "count(0, 1) 2 2", "count(0, 2) 2 2", "chain(0, 1) 3 2", "chain(0, 7) 2 1",
            "star(0, 0) 5 2", "bucket(0, 2, 2) 2 1", "quantile(0, 5) 2 5", "quantile(0, 4) 2 2",
            "register(1, 2) 1 1", "register(1, 0) 2 2", "distinct(1, 9) 2 2", "distinct(1, 0) 2 2",
            "estimate(0, 0, 1) 3 2", "estimate(1, 0, 0) 4 2", "estimate(3, 0, 0) 1 0", "range(0, 0, 31) 3 2",
            "sample(0, 0) 770 770", "sample(0, 1) 1029 1029", "matches(1) 3 2");
    }

    private static void subjectAndObjectGo() {
        changes.shows("s and o go", "drop(5, 1, 3) 1",
            "count(1, 0) 2 1", "count(1, 1) 2 1", "count(1, 2) 2 1", "chain(0, 1) 3 2", "chain(1, 0) 1 0",
            "star(1, 1) 2 1", "bucket(1, 0, 5) 1 0", "quantile(1, 1) 3 6", "register(2, 15) 4 0", "register(255, 15) 4 0",
            "distinct(2, 9) 2 1", "distinct(255, 9) 4 3", "distinct(255, 0) 4 3", "estimate(0, 1, 0) 3 1",
            "estimate(1, 1, 0) 3 1", "range(1, 0, 15) 1 0");
    }

    private static void ofTheSample() {
        changes.shows("first of the sample", "drop(3, 0, 2) 1",
            "sample(0, 0) 770 1029", "sample(0, 1) 1029 NO", "sample(1, 0) 518 518", "estimate(4, 0, 1) 32 16");
        changes.shows("last of the sample", "drop(5, 1, 3) 1",
            "sample(1, 0) 518 518", "sample(1, 1) 1283 NO", "estimate(4, 0, 1) 32 16", "estimate(4, 1, 0) 16 0");
        changes.shows("not of the sample", "drop(4, 0, 2) 1",
            "sample(0, 0) 770 770", "sample(0, 1) 1029 1029", "sample(0, 2) NO NO", "estimate(4, 0, 1) 32 32");
    }

    /** 0 and 4 are told to register 2, with ranks 2 and 1. */
    private static void lesserRankIsLeft() {
        Changes withTwo = new Changes(due, "triple(0, 0, 9)", "triple(0, 6, 9)");
        withTwo.shows("a lesser rank is left", "drop(0, 0, 9) 1",
            "register(1, 2) 2 1", "register(65, 2) 2 2", "register(255, 2) 2 2", "register(64, 2) 2 2",
            "distinct(1, 9) 3 2", "distinct(65, 9) 3 3");
    }

    private static void sameNumbersOfAnotherPredicate() {
        Changes withTwo = new Changes(due, "triple(4, 1, 2)");
        withTwo.shows("the same s and o of another predicate", "drop(4, 1, 2) 1",
            "count(1, 0) 3 2", "count(0, 0) 3 3", "star(0, 0) 5 5", "star(0, 1) 2 0", "bucket(0, 2, 2) 2 2",
            "distinct(3, 9) 4 4", "matches(1) 3 3");
    }

    private static void notThere() {
        changes.shows("not there", "drop(4, 1, 5) 0",
            "told(0) 6 6", "count(0, 0) 3 3", "count(1, 0) 2 2", "chain(0, 1) 3 3", "star(0, 0) 5 5",
            "bucket(0, 5, 5) 1 1", "quantile(1, 8) 6 6", "register(3, 2) 1 1", "distinct(3, 9) 4 4",
            "estimate(2, 0, 1) 5 5", "range(0, 0, 31) 3 3", "sample(0, 1) 1029 1029", "matches(0) 6 6", "countAt(0, 1) 3 3");
    }

    private static void allGo() {
        changes.go("all go",
            "drop(2, 7, 200) 1", "drop(4, 0, 2) 1", "drop(5, 1, 3) 1", "drop(4, 0, 5) 1", "drop(2, 1, 6) 1",
            "drop(3, 0, 2) 1", "told(0) 0", "count(0, 0) 0", "chain(0, 1) 0", "star(0, 0) 0", "bucket(0, 0, 255) 0",
            "quantile(0, 1) NO", "register(255, 2) 0", "distinct(255, 0) 0", "estimate(2, 0, 1) 0", "range(1, 0, 255) 0",
            "sample(0, 0) NO", "matches(0) 0", "countAt(0, 1) 3", "drop(4, 0, 2) 0", "told(1) 4", "told(2) 2");
    }
}
