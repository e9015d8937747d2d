/** Promises 4 to 8: count, chain, star, bucket, quantile. */
public final class CountsTest {
    private static final int[] WRONG = {-1, 8, Integer.MIN_VALUE, Integer.MAX_VALUE};

    private static final Due due = new Due();

    public static void main(String[] args) {
        counts();
        chains();
        stars();
        greatestPairs();
        buckets();
        quantiles();
        wrongPredicates();
        due.end();
    }

    private static void counts() {
        StatRows x = new StatRows();
        x.triple(5, 3, 10);
        x.triple(5, 3, 11);
        x.triple(5, 3, 12);
        x.triple(6, 3, 10);
        x.triple(9, 4, 200);
        due.is("COUNT", x.count(3, 0), 4);
        due.is("SUBJECTS", x.count(3, 1), 2);
        due.is("OBJECTS", x.count(3, 2), 3);
        due.is("COUNT of another", x.count(4, 0), 1);
        due.is("COUNT of none", x.count(2, 0), 0);
        due.is("SUBJECTS of none", x.count(2, 1), 0);
        due.is("OBJECTS of none", x.count(2, 2), 0);
        x.drop(5, 3, 10);
        due.is("COUNT after a drop", x.count(3, 0), 3);
        due.is("SUBJECTS, one is left", x.count(3, 1), 2);
        due.is("OBJECTS, one is left", x.count(3, 2), 3);
        x.drop(6, 3, 10);
        due.is("SUBJECTS, the last went", x.count(3, 1), 1);
        due.is("OBJECTS, the last went", x.count(3, 2), 2);
        due.is("count, what -1", x.count(3, -1), StatRows.BAD);
        due.is("count, what 3", x.count(3, 3), StatRows.BAD);
        for (int what = 0; what <= 2; what++) {
            due.is("count, p -1", x.count(-1, what), StatRows.BAD);
            due.is("count, p 8", x.count(8, what), StatRows.BAD);
        }
    }

    private static void chains() {
        StatRows x = new StatRows();
        x.triple(1, 0, 2);
        x.triple(3, 0, 2);
        x.triple(2, 1, 4);
        x.triple(2, 1, 5);
        x.triple(2, 1, 6);
        x.triple(4, 1, 1);
        due.is("chain", x.chain(0, 1), 6);
        due.is("chain, the other way", x.chain(1, 0), 1);
        due.is("chain of one", x.chain(1, 1), 1);
        due.is("chain of one, none", x.chain(0, 0), 0);
        x.triple(255, 5, 255);
        due.is("chain of a triple with itself", x.chain(5, 5), 1);
        x.drop(3, 0, 2);
        due.is("chain after a drop", x.chain(0, 1), 3);
        due.is("chain of none", x.chain(0, 7), 0);
    }

    private static void stars() {
        StatRows x = new StatRows();
        x.triple(1, 0, 2);
        x.triple(1, 0, 3);
        x.triple(1, 6, 4);
        x.triple(1, 6, 5);
        x.triple(1, 6, 6);
        x.triple(2, 6, 1);
        due.is("star", x.star(0, 6), 6);
        due.is("star, the other way", x.star(6, 0), 6);
        due.is("star of one", x.star(6, 6), 10);
        due.is("star of two", x.star(0, 0), 4);
        x.drop(1, 6, 4);
        due.is("star after a drop", x.star(0, 6), 4);
        due.is("star of none", x.star(0, 1), 0);
    }

    private static void greatestPairs() {
        StatRows x = new StatRows();
        for (int i = 0; i < 200; i++) {
            x.triple(i, 0, 9);
            x.triple(9, 1, i);
        }
        due.is("all chains", x.chain(0, 1), 40000);
        due.is("all stars", x.star(1, 1), 40000);
        due.is("stars of different s", x.star(0, 0), 200);
        due.is("stars at one s", x.star(0, 1), 200);
    }

    private static void buckets() {
        StatRows x = new StatRows();
        for (int o = 0; o < 256; o += 5) {
            x.triple(o, 2, o);
        }
        x.triple(77, 2, 50);
        x.triple(77, 3, 50);
        due.is("bucket of all", x.bucket(2, 0, 255), 53);
        due.is("bucket of one number", x.bucket(2, 50, 50), 2);
        due.is("bucket, its ends count", x.bucket(2, 5, 10), 2);
        due.is("bucket between", x.bucket(2, 6, 9), 0);
        due.is("bucket, from is greater", x.bucket(2, 10, 5), 0);
        due.is("bucket beyond", x.bucket(2, 256, Integer.MAX_VALUE), 0);
        due.is("bucket below", x.bucket(2, Integer.MIN_VALUE, -1), 0);
        due.is("bucket, least", x.bucket(2, Integer.MIN_VALUE, 0), 1);
        due.is("bucket, greatest", x.bucket(2, 255, Integer.MAX_VALUE), 1);
        due.is("bucket, turned round", x.bucket(2, Integer.MAX_VALUE, Integer.MIN_VALUE), 0);
        due.is("bucket of another", x.bucket(3, 0, 255), 1);
        x.drop(50, 2, 50);
        due.is("bucket after a drop", x.bucket(2, 50, 50), 1);
    }

    private static void quantiles() {
        StatRows x = new StatRows();
        due.is("quantile of none", x.quantile(1, 8), StatRows.NO);
        x.triple(0, 1, 255);
        due.is("quantile of one, 1", x.quantile(1, 1), 255);
        due.is("quantile of one, 8", x.quantile(1, 8), 255);
        for (int i = 1; i < 8; i++) {
            x.triple(i, 1, 10 * i);
        }
        for (int k = 1; k <= 7; k++) {
            due.is("quantile of eight, " + k, x.quantile(1, k), 10 * k);
        }
        due.is("quantile of eight, 8", x.quantile(1, 8), 255);
        x.triple(100, 1, 10);
        due.is("quantile of nine, 1", x.quantile(1, 1), 10);
        due.is("quantile of nine, 2", x.quantile(1, 2), 20);
        due.is("quantile, k 0", x.quantile(1, 0), StatRows.BAD);
        due.is("quantile, k 9", x.quantile(1, 9), StatRows.BAD);
        due.is("quantile, k 9 of none", x.quantile(2, 9), StatRows.BAD);
        due.is("quantile, k least", x.quantile(1, Integer.MIN_VALUE), StatRows.BAD);
        due.is("quantile, k greatest", x.quantile(1, Integer.MAX_VALUE), StatRows.BAD);
        StatRows y = new StatRows();
        y.triple(4, 0, 0);
        due.is("quantile at 0", y.quantile(0, 8), 0);
        y.drop(4, 0, 0);
        due.is("quantile when all went", y.quantile(0, 8), StatRows.NO);
    }

    private static void wrongPredicates() {
        StatRows x = new StatRows();
        x.triple(0, 0, 0);
        x.triple(0, 7, 0);
        for (int p : WRONG) {
            due.is("count of " + p, x.count(p, 0), StatRows.BAD);
            due.is("chain from " + p, x.chain(p, 0), StatRows.BAD);
            due.is("chain to " + p, x.chain(0, p), StatRows.BAD);
            due.is("star from " + p, x.star(p, 0), StatRows.BAD);
            due.is("star to " + p, x.star(0, p), StatRows.BAD);
            due.is("bucket of " + p, x.bucket(p, 0, 255), StatRows.BAD);
            due.is("bucket of " + p + ", from is greater", x.bucket(p, 1, 0), StatRows.BAD);
            due.is("quantile of " + p, x.quantile(p, 1), StatRows.BAD);
        }
        due.is("chain of 0 and 7", x.chain(0, 7), 1);
        due.is("star of 7 and 0", x.star(7, 0), 1);
    }
}
