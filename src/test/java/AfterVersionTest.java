/** Promise 16: what each call that tells shows before a version ends, and after it; promise 17 for its counts. */
public final class AfterVersionTest {
    private static final Due due = new Due();
    private static final Changes changes = new Changes(due);

    public static void main(String[] args) {
        newVersion();
        allElseStays();
        countsAreAsTheyWere();
        versionsOfTheSameTriples();
        numbersGoOn();
        changes.lookedAtAll();
        due.end();
    }

    private static void newVersion() {
        Changes withMore = new Changes(due, "triple(9, 3, 40)", "drop(2, 7, 200)");
        withMore.shows("a version ends", "version() 2",
            "told(2) 2 3", "told(3) 2 3",
            "countAt(0, 2) BAD 3", "countAt(1, 2) BAD 2", "countAt(2, 2) BAD 0", "countAt(3, 2) BAD 1",
            "countAt(7, 2) BAD 0", "countAt(0, 3) BAD BAD",
            "countAt(0, 1) 3 3", "countAt(3, 1) 0 0", "countAt(7, 1) 1 1", "countAt(1, 0) 0 0");
    }

    private static void allElseStays() {
        changes.shows("all else stays", "version() 2",
            "told(0) 6 6", "told(1) 4 4", "count(0, 0) 3 3", "count(1, 1) 2 2", "count(7, 2) 1 1", "chain(0, 1) 3 3",
            "star(0, 0) 5 5", "bucket(0, 0, 255) 3 3", "quantile(0, 8) 5 5", "quantile(3, 8) NO NO",
            "register(255, 15) 4 4", "distinct(255, 9) 4 4", "distinct(255, 0) 4 4", "estimate(1, 0, 0) 4 4",
            "estimate(4, 0, 1) 32 32", "range(0, 0, 31) 3 3", "sample(0, 0) 770 770", "sample(0, 2) NO NO",
            "matches(0) 6 6", "matches(3) 1 1", "matches(4) BAD BAD", "countAt(0, 0) 3 3");
    }

    private static void countsAreAsTheyWere() {
        changes.go("counts are as they were",
            "version() 2", "triple(9, 3, 40) 1", "countAt(3, 2) 0", "count(3, 0) 1",
            "version() 3", "countAt(3, 2) 0", "countAt(3, 3) 1", "drop(9, 3, 40) 1", "countAt(3, 3) 1", "count(3, 0) 0",
            "drop(4, 0, 2) 1", "drop(4, 0, 5) 1", "version() 4", "countAt(0, 4) 1", "countAt(0, 3) 3", "countAt(3, 4) 0");
    }

    private static void versionsOfTheSameTriples() {
        changes.go("versions of the same triples",
            "version() 2", "version() 3", "told(2) 4", "told(3) 4", "countAt(0, 1) 3", "countAt(0, 2) 3",
            "countAt(0, 3) 3", "countAt(0, 4) BAD", "told(0) 6");
    }

    private static void numbersGoOn() {
        changes.go("numbers go on",
            "forget(1) 1", "version() 2", "forget(2) 1", "version() 3", "told(2) 4", "told(3) 2",
            "countAt(0, 1) NO", "countAt(0, 2) 3", "countAt(0, 3) 3");
    }
}
