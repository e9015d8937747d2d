/** Promise 2: what each call that tells shows before a triple comes, and after it. */
public final class AfterTripleTest {
    private static final Due due = new Due();
    private static final Changes changes = new Changes(due);

    public static void main(String[] args) {
        firstOfItsPredicate();
        patternsAndVersionsStay();
        withSubjectAndObjectThere();
        withSubjectOfAnotherPredicate();
        betweenOthersOfTheSample();
        withGreaterRank();
        thereAlready();
        goesAndComesAgain();
        changes.lookedAtAll();
        due.end();
    }

    private static void firstOfItsPredicate() {
        changes.shows("first of its predicate", "triple(9, 3, 40) 1",
            "told(0) 6 7", "count(3, 0) 0 1", "count(3, 1) 0 1", "count(3, 2) 0 1", "count(0, 0) 3 3",
            "chain(3, 3) 0 0", "chain(0, 3) 0 0", "star(3, 3) 0 1", "star(0, 3) 0 0",
            "bucket(3, 40, 40) 0 1", "bucket(3, 0, 39) 0 0", "bucket(0, 0, 255) 3 3",
            "quantile(3, 1) NO 40", "quantile(3, 8) NO 40", "quantile(0, 8) 5 5",
            "register(8, 13) 0 1", "register(255, 13) 0 1", "register(247, 13) 0 0",
            "distinct(8, 9) 0 1", "distinct(255, 9) 4 5", "distinct(255, 0) 4 5", "distinct(247, 9) 4 4",
            "estimate(0, 3, 0) 0 1", "estimate(1, 0, 3) 0 1", "estimate(2, 0, 3) 3 4", "estimate(3, 3, 0) 0 0",
            "estimate(4, 3, 3) 0 0", "range(3, 32, 63) 0 1", "range(3, 33, 63) 0 0", "range(0, 0, 255) 3 3",
            "sample(3, 0) NO NO", "matches(0) 6 7", "matches(1) 3 3");
    }

    private static void patternsAndVersionsStay() {
        changes.shows("patterns and versions stay", "triple(2, 1, 7) 1",
            "told(1) 4 4", "told(2) 2 2", "told(3) 2 2", "matches(4) BAD BAD",
            "count(1, 0) 2 3", "countAt(1, 0) 0 0", "countAt(1, 1) 2 2", "countAt(1, 2) BAD BAD");
    }

    private static void withSubjectAndObjectThere() {
        changes.shows("s and o are there", "triple(3, 0, 5) 1",
            "count(0, 0) 3 4", "count(0, 1) 2 2", "count(0, 2) 2 2",
            "chain(0, 1) 3 4", "chain(1, 0) 1 2", "star(0, 0) 5 8", "star(0, 1) 0 0",
            "bucket(0, 3, 5) 1 2", "bucket(0, 0, 4) 2 2", "quantile(0, 5) 2 5", "quantile(0, 4) 2 2",
            "register(1, 0) 2 2", "distinct(1, 2) 2 2", "distinct(1, 0) 2 2",
            "estimate(0, 0, 1) 3 4", "estimate(1, 0, 0) 4 8", "estimate(2, 0, 0) 6 8", "estimate(3, 0, 0) 1 1",
            "estimate(4, 0, 1) 32 32", "range(0, 0, 31) 3 4", "range(0, 0, 15) 1 2",
            "sample(0, 0) 770 770", "sample(0, 1) 1029 1029", "sample(0, 2) NO NO",
            "matches(1) 3 4", "matches(2) 2 2");
    }

    private static void withSubjectOfAnotherPredicate() {
        changes.shows("s has another predicate", "triple(2, 0, 2) 1",
            "count(0, 1) 2 3", "count(0, 2) 2 2", "chain(0, 0) 0 3", "chain(0, 1) 3 4", "chain(0, 7) 2 3",
            "chain(1, 0) 1 1", "star(0, 1) 0 1", "star(1, 0) 0 1", "star(0, 7) 0 1",
            "bucket(0, 2, 2) 2 3", "quantile(0, 6) 5 2", "register(1, 5) 0 4", "register(3, 5) 4 4",
            "distinct(1, 3) 2 3", "distinct(1, 0) 2 3", "distinct(3, 4) 4 4",
            "estimate(0, 0, 1) 3 4", "estimate(0, 0, 0) 4 5", "estimate(1, 0, 7) 1 1",
            "matches(0) 6 7", "matches(1) 3 4", "matches(2) 2 3", "matches(3) 1 1");
    }

    /** The samples have the pairs (2, 2), (3, 2) and (4, 5) of predicate 0, and (2, 6) and (5, 3) of predicate 1. */
    private static void betweenOthersOfTheSample() {
        changes.shows("before others of the sample", "triple(2, 0, 2) 1",
            "sample(0, 0) 770 514", "sample(0, 1) 1029 770", "sample(0, 2) NO 1029", "sample(0, 3) NO NO",
            "sample(1, 0) 518 518", "estimate(4, 0, 1) 32 48", "estimate(4, 0, 0) 0 32");
    }

    /** 0 and 4 are told to register 2, with ranks 2 and 1. */
    private static void withGreaterRank() {
        changes.shows("a greater rank", "triple(0, 0, 2) 1",
            "register(1, 2) 1 2", "register(255, 2) 1 2", "register(254, 2) 0 0", "distinct(1, 9) 2 3", "distinct(1, 0) 2 2");
    }

    private static void thereAlready() {
        changes.shows("there already", "triple(4, 0, 5) 0",
            "told(0) 6 6", "count(0, 0) 3 3", "chain(0, 1) 3 3", "star(0, 0) 5 5", "bucket(0, 5, 5) 1 1",
            "quantile(0, 8) 5 5", "register(1, 2) 1 1", "distinct(1, 9) 2 2", "estimate(0, 0, 1) 3 3",
            "range(0, 0, 31) 3 3", "sample(0, 1) 1029 1029", "matches(1) 3 3", "countAt(0, 1) 3 3");
    }

    private static void goesAndComesAgain() {
        changes.go("goes and comes again",
            "triple(9, 3, 40) 1", "triple(9, 3, 40) 0", "count(3, 0) 1", "drop(9, 3, 40) 1", "count(3, 0) 0",
            "triple(9, 3, 40) 1", "count(3, 0) 1", "told(0) 7");
    }
}
