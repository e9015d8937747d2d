/** Promise 18: what each call that tells shows before versions are forgotten, and after it. */
public final class AfterForgetTest {
    private static final Due due = new Due();
    private static final Changes changes = new Changes(due);

    public static void main(String[] args) {
        versionsBelowOneGo();
        allElseStays();
        noneIsBelow();
        noneComesBack();
        placesAreFree();
        changes.lookedAtAll();
        due.end();
    }

    private static void versionsBelowOneGo() {
        changes.shows("one is below", "forget(1) 1",
            "told(2) 2 2", "told(3) 2 1", "countAt(0, 0) 3 NO", "countAt(1, 0) 0 NO", "countAt(8, 0) BAD BAD",
            "countAt(0, 1) 3 3", "countAt(1, 1) 2 2", "countAt(7, 1) 1 1", "countAt(0, 2) BAD BAD");
        Changes withFive = new Changes(due, "version()", "triple(9, 3, 40)", "version()", "version()");
        withFive.shows("three are below", "forget(3) 3",
            "told(2) 5 5", "told(3) 5 2", "countAt(0, 0) 3 NO", "countAt(0, 1) 3 NO", "countAt(3, 2) 0 NO",
            "countAt(3, 3) 1 1", "countAt(3, 4) 1 1", "countAt(3, 5) BAD BAD");
    }

    private static void allElseStays() {
        changes.shows("all else stays", "forget(1) 1",
            "told(0) 6 6", "told(1) 4 4", "count(0, 0) 3 3", "count(1, 1) 2 2", "chain(0, 1) 3 3", "star(0, 0) 5 5",
            "bucket(0, 0, 255) 3 3", "quantile(0, 8) 5 5", "register(255, 15) 4 4", "distinct(255, 9) 4 4",
            "distinct(255, 0) 4 4", "estimate(1, 0, 0) 4 4", "estimate(4, 0, 1) 32 32", "range(0, 0, 31) 3 3",
            "sample(0, 0) 770 770", "matches(0) 6 6", "matches(1) 3 3", "matches(4) BAD BAD");
    }

    private static void noneIsBelow() {
        changes.shows("none is below", "forget(0) 0",
            "told(2) 2 2", "told(3) 2 2", "countAt(0, 0) 3 3", "countAt(1, 1) 2 2");
        changes.shows("no such version", "forget(2) BAD",
            "told(2) 2 2", "told(3) 2 2", "countAt(0, 0) 3 3", "countAt(1, 1) 2 2", "countAt(0, 2) BAD BAD");
    }

    private static void noneComesBack() {
        Changes withOneLess = new Changes(due, "forget(1)");
        withOneLess.shows("the same once more", "forget(1) 0",
            "told(2) 2 2", "told(3) 1 1", "countAt(0, 0) NO NO", "countAt(0, 1) 3 3");
        withOneLess.shows("one that is not kept", "forget(0) 0",
            "told(2) 2 2", "told(3) 1 1", "countAt(0, 0) NO NO", "countAt(0, 1) 3 3");
        withOneLess.go("after versions more",
            "version() 2", "version() 3", "forget(0) 0", "told(3) 3", "countAt(0, 0) NO", "forget(3) 2", "told(3) 1",
            "countAt(0, 1) NO", "countAt(0, 2) NO", "countAt(0, 3) 3", "told(2) 4");
    }

    private static void placesAreFree() {
        String[] untilForty = new String[38];
        java.util.Arrays.fill(untilForty, "version()");
        new Changes(due, untilForty).go("places are free",
            "told(3) 40", "version() FULL", "forget(2) 2", "told(3) 38", "version() 40", "version() 41", "version() FULL",
            "countAt(0, 1) NO", "countAt(0, 2) 3", "countAt(0, 41) 3", "countAt(0, 42) BAD", "told(2) 42", "told(3) 40",
            "forget(41) 39", "told(3) 1");
    }
}
