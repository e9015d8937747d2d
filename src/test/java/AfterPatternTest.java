/** Promise 14: what each call that tells shows before a pattern is asked for, and after it; promise 15 for its row. */
public final class AfterPatternTest {
    private static final Due due = new Due();
    private static final Changes changes = new Changes(due);

    public static void main(String[] args) {
        newPattern();
        allElseStays();
        patternThereAlready();
        rowsFollowTheTriples();
        rowsAreKept();
        changes.lookedAtAll();
        due.end();
    }

    private static void newPattern() {
        changes.shows("any s and o", "pattern(-1, 1, -1) 4",
            "told(1) 4 5", "matches(4) BAD 2", "matches(5) BAD BAD", "matches(0) 6 6", "matches(3) 1 1");
        changes.shows("any p and o", "pattern(4, -1, -1) 4", "told(1) 4 5", "matches(4) BAD 2");
        changes.shows("any s and p", "pattern(-1, -1, 2) 4", "told(1) 4 5", "matches(4) BAD 2");
        changes.shows("any s", "pattern(-1, 0, 2) 4", "told(1) 4 5", "matches(4) BAD 2");
        changes.shows("any p", "pattern(2, -1, 6) 4", "told(1) 4 5", "matches(4) BAD 1");
        changes.shows("any o", "pattern(2, 7, -1) 4", "told(1) 4 5", "matches(4) BAD 1");
        changes.shows("a triple that is there", "pattern(5, 1, 3) 4", "told(1) 4 5", "matches(4) BAD 1");
        changes.shows("a triple that is not there", "pattern(5, 1, 4) 4", "told(1) 4 5", "matches(4) BAD 0");
    }

    private static void allElseStays() {
        changes.shows("all else stays", "pattern(9, 3, 40) 4",
            "told(0) 6 6", "told(2) 2 2", "told(3) 2 2", "count(3, 0) 0 0", "count(0, 1) 2 2", "chain(0, 1) 3 3",
            "star(0, 0) 5 5", "bucket(3, 0, 255) 0 0", "quantile(3, 1) NO NO", "quantile(0, 8) 5 5",
            "register(255, 13) 0 0", "register(255, 2) 1 1", "distinct(255, 9) 4 4", "distinct(255, 0) 4 4",
            "estimate(0, 0, 1) 3 3", "estimate(4, 0, 1) 32 32", "range(0, 0, 31) 3 3", "sample(0, 0) 770 770",
            "matches(0) 6 6", "matches(1) 3 3", "matches(2) 2 2", "matches(3) 1 1",
            "countAt(0, 0) 3 3", "countAt(1, 1) 2 2", "countAt(3, 1) 0 0");
    }

    private static void patternThereAlready() {
        changes.shows("there already, the first", "pattern(-1, -1, -1) 0",
            "told(1) 4 4", "matches(0) 6 6", "matches(4) BAD BAD");
        changes.shows("there already, the last", "pattern(-1, -1, 6) 3",
            "told(1) 4 4", "matches(3) 1 1", "matches(4) BAD BAD");
    }

    private static void rowsFollowTheTriples() {
        changes.go("rows follow the triples",
            "pattern(9, 3, 40) 4", "pattern(9, -1, -1) 5", "matches(4) 0", "matches(5) 0",
            "triple(9, 3, 40) 1", "matches(4) 1", "matches(5) 1", "triple(9, 6, 40) 1", "matches(4) 1", "matches(5) 2",
            "drop(9, 3, 40) 1", "matches(4) 0", "matches(5) 1", "drop(9, 6, 40) 1", "matches(5) 0");
    }

    private static void rowsAreKept() {
        changes.go("rows are kept",
            "pattern(7, 7, 7) 4", "drop(4, 0, 2) 1", "version() 2", "forget(2) 2", "triple(7, 7, 7) 1",
            "pattern(7, 7, 7) 4", "pattern(-1, -1, 6) 3", "pattern(2, -1, -1) 2", "pattern(-1, 0, -1) 1",
            "pattern(-1, -1, -1) 0", "told(1) 5", "matches(4) 1", "pattern(7, 7, 8) 5");
    }
}
