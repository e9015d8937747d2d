/** The boundary cases of the terms COUNT, CHAIN and STAR and of promises 4 to 8. */
public final class CountLimitsTest {
    private static final Due due = new Due();

    public static void main(String[] args) {
        countPredicateIsWithin();
        countWhatIsWithin();
        countsOfNone();
        countsOfOne();
        greatestCounts();
        chainPredicatesAreWithin();
        chainsAtTheEndsOfNumbers();
        chainOfTripleWithItself();
        greatestChain();
        starPredicatesAreWithin();
        starOfTripleWithItself();
        greatestStar();
        bucketPredicateIsWithin();
        bucketFromIsGreater();
        bucketEndsCount();
        bucketBeyondAllNumbers();
        quantilePredicateIsWithin();
        quantileKIsWithin();
        quantileOfNone();
        quantileIsAtLeast();
        quantileAtTheEndsOfNumbers();
        quantileOfFourHundred();
        due.end();
    }

    private static void countPredicateIsWithin() {
        StatRows x = new StatRows();
        x.triple(1, 0, 1);
        x.triple(1, 7, 1);
        for (int what = 0; what <= 2; what++) {
            for (int p : Limits.inside(0, 7)) {
                due.is("count(" + p + ", " + what + ")", x.count(p, what), 1);
            }
            for (int p : Limits.outside(0, 7)) {
                due.is("count(" + p + ", " + what + ")", x.count(p, what), StatRows.BAD);
            }
        }
    }

    private static void countWhatIsWithin() {
        StatRows x = new StatRows();
        x.triple(1, 7, 1);
        x.triple(1, 7, 2);
        due.is("count, what 0, the first", x.count(7, 0), 2);
        due.is("count, what 2, the last", x.count(7, 2), 2);
        for (int what : Limits.outside(0, 2)) {
            due.is("count of some, what " + what, x.count(7, what), StatRows.BAD);
            due.is("count of none, what " + what, x.count(0, what), StatRows.BAD);
            due.is("count, all is " + what, x.count(what, what), StatRows.BAD);
        }
    }

    private static void countsOfNone() {
        StatRows x = new StatRows();
        x.triple(1, 3, 1);
        x.drop(1, 3, 1);
        for (int what = 0; what <= 2; what++) {
            due.is("count(3, " + what + ") when all went", x.count(3, what), 0);
        }
    }

    private static void countsOfOne() {
        StatRows x = new StatRows();
        x.triple(0, 3, 255);
        x.triple(255, 4, 0);
        for (int what = 0; what <= 2; what++) {
            due.is("count(3, " + what + ") of one", x.count(3, what), 1);
            due.is("count(4, " + what + ") of one", x.count(4, what), 1);
        }
    }

    private static void greatestCounts() {
        StatRows x = new StatRows();
        for (int i = 0; i < 400; i++) {
            x.triple(i % 256, 5, (i + i / 256) % 256);
        }
        due.is("COUNT of 400", x.count(5, 0), 400);
        due.is("SUBJECTS, all 256", x.count(5, 1), 256);
        due.is("OBJECTS, all 256", x.count(5, 2), 256);
        StatRows y = new StatRows();
        for (int i = 0; i < 256; i++) {
            y.triple(255, 6, i);
            if (i < 144) {
                y.triple(i, 0, 255);
            }
        }
        due.is("SUBJECTS, one has 256", y.count(6, 1), 1);
        due.is("OBJECTS of one s", y.count(6, 2), 256);
        due.is("SUBJECTS of one o", y.count(0, 1), 144);
        due.is("OBJECTS, one has 144", y.count(0, 2), 1);
    }

    private static void chainPredicatesAreWithin() {
        StatRows x = new StatRows();
        x.triple(9, 0, 9);
        x.triple(9, 7, 9);
        for (int p : Limits.inside(0, 7)) {
            for (int q : Limits.inside(0, 7)) {
                due.is("chain(" + p + ", " + q + ")", x.chain(p, q), 1);
            }
            for (int wrong : Limits.outside(0, 7)) {
                due.is("chain(" + p + ", " + wrong + ")", x.chain(p, wrong), StatRows.BAD);
                due.is("chain(" + wrong + ", " + p + ")", x.chain(wrong, p), StatRows.BAD);
                due.is("chain(" + wrong + ", " + wrong + ")", x.chain(wrong, wrong), StatRows.BAD);
            }
        }
    }

    private static void chainsAtTheEndsOfNumbers() {
        StatRows x = new StatRows();
        x.triple(1, 0, 0);
        x.triple(0, 1, 1);
        x.triple(1, 2, 255);
        x.triple(255, 3, 1);
        due.is("chain through 0", x.chain(0, 1), 1);
        due.is("chain through 255", x.chain(2, 3), 1);
        due.is("no chain from 0 to 255", x.chain(0, 3), 0);
        due.is("no chain from 255 to 0", x.chain(2, 1), 0);
    }

    private static void chainOfTripleWithItself() {
        StatRows x = new StatRows();
        x.triple(3, 6, 4);
        due.is("chain, p and q alike, s is not o", x.chain(6, 6), 0);
        x.triple(3, 6, 3);
        due.is("chain, p and q alike, s is o", x.chain(6, 6), 2);
        x.drop(3, 6, 4);
        due.is("chain of the one with itself", x.chain(6, 6), 1);
    }

    private static void greatestChain() {
        StatRows x = new StatRows();
        for (int i = 0; i < 200; i++) {
            x.triple(i, 0, 255);
            x.triple(255, 7, i);
        }
        due.is("chain, 200 to 200", x.chain(0, 7), 40000);
        due.is("chain, the other way: one through each", x.chain(7, 0), 200);
        due.is("chain, none of 200 with itself", x.chain(0, 0), 0);
    }

    private static void starPredicatesAreWithin() {
        StatRows x = new StatRows();
        x.triple(9, 0, 1);
        x.triple(9, 7, 2);
        for (int p : Limits.inside(0, 7)) {
            for (int q : Limits.inside(0, 7)) {
                due.is("star(" + p + ", " + q + ")", x.star(p, q), 1);
            }
            for (int wrong : Limits.outside(0, 7)) {
                due.is("star(" + p + ", " + wrong + ")", x.star(p, wrong), StatRows.BAD);
                due.is("star(" + wrong + ", " + p + ")", x.star(wrong, p), StatRows.BAD);
                due.is("star(" + wrong + ", " + wrong + ")", x.star(wrong, wrong), StatRows.BAD);
            }
        }
    }

    private static void starOfTripleWithItself() {
        StatRows x = new StatRows();
        due.is("star of none, alike", x.star(6, 6), 0);
        x.triple(0, 6, 4);
        due.is("star of one, with itself", x.star(6, 6), 1);
        x.triple(0, 6, 5);
        due.is("star of two, each with both", x.star(6, 6), 4);
        x.triple(255, 6, 4);
        due.is("star, another s with itself alone", x.star(6, 6), 5);
    }

    private static void greatestStar() {
        StatRows x = new StatRows();
        for (int o = 0; o < 256; o++) {
            x.triple(255, 7, o);
        }
        due.is("star, all o of one s", x.star(7, 7), 65536);
        for (int o = 0; o < 144; o++) {
            x.triple(255, 0, o);
        }
        due.is("star of 256 and 144", x.star(7, 0), 36864);
        due.is("star of 144 and 256", x.star(0, 7), 36864);
    }

    private static void bucketPredicateIsWithin() {
        StatRows x = new StatRows();
        x.triple(1, 0, 1);
        x.triple(1, 7, 1);
        for (int p : Limits.inside(0, 7)) {
            due.is("bucket of " + p, x.bucket(p, 0, 255), 1);
        }
        for (int p : Limits.outside(0, 7)) {
            due.is("bucket of " + p, x.bucket(p, 0, 255), StatRows.BAD);
            due.is("bucket of " + p + ", from is greater", x.bucket(p, 2, 1), StatRows.BAD);
        }
    }

    private static void bucketFromIsGreater() {
        StatRows x = new StatRows();
        x.triple(1, 2, 100);
        x.triple(1, 2, 101);
        due.is("bucket, from is to", x.bucket(2, 100, 100), 1);
        due.is("bucket, from is one less", x.bucket(2, 100, 101), 2);
        due.is("bucket, from is one greater", x.bucket(2, 101, 100), 0);
        due.is("bucket, from is greatest, to is least", x.bucket(2, Integer.MAX_VALUE, Integer.MIN_VALUE), 0);
        due.is("bucket, from 255, to 0", x.bucket(2, 255, 0), 0);
        due.is("bucket, from is greater, of none", x.bucket(3, 101, 100), 0);
    }

    private static void bucketEndsCount() {
        StatRows x = new StatRows();
        x.triple(1, 2, 100);
        due.is("bucket, from is o", x.bucket(2, 100, 255), 1);
        due.is("bucket, from is above o", x.bucket(2, 101, 255), 0);
        due.is("bucket, to is o", x.bucket(2, 0, 100), 1);
        due.is("bucket, to is below o", x.bucket(2, 0, 99), 0);
    }

    private static void bucketBeyondAllNumbers() {
        StatRows x = new StatRows();
        x.triple(1, 2, 0);
        x.triple(1, 2, 255);
        due.is("bucket of all ints", x.bucket(2, Integer.MIN_VALUE, Integer.MAX_VALUE), 2);
        due.is("bucket, least int to -1", x.bucket(2, Integer.MIN_VALUE, -1), 0);
        due.is("bucket, least int to 0", x.bucket(2, Integer.MIN_VALUE, 0), 1);
        due.is("bucket, 255 to greatest int", x.bucket(2, 255, Integer.MAX_VALUE), 1);
        due.is("bucket, 256 to greatest int", x.bucket(2, 256, Integer.MAX_VALUE), 0);
        due.is("bucket, least int alone", x.bucket(2, Integer.MIN_VALUE, Integer.MIN_VALUE), 0);
        due.is("bucket, greatest int alone", x.bucket(2, Integer.MAX_VALUE, Integer.MAX_VALUE), 0);
        due.is("bucket, 256 is not 0", x.bucket(2, 256, 256), 0);
        due.is("bucket, -1 is not 255", x.bucket(2, -1, -1), 0);
    }

    private static void quantilePredicateIsWithin() {
        StatRows x = new StatRows();
        x.triple(1, 0, 70);
        x.triple(1, 7, 70);
        for (int p : Limits.inside(0, 7)) {
            due.is("quantile of " + p, x.quantile(p, 4), 70);
        }
        for (int p : Limits.outside(0, 7)) {
            due.is("quantile of " + p, x.quantile(p, 4), StatRows.BAD);
            due.is("quantile of " + p + ", k wrong too", x.quantile(p, 0), StatRows.BAD);
        }
    }

    private static void quantileKIsWithin() {
        StatRows x = new StatRows();
        x.triple(1, 5, 70);
        for (int k : Limits.inside(1, 8)) {
            due.is("quantile, k " + k, x.quantile(5, k), 70);
        }
        for (int k : Limits.outside(1, 8)) {
            due.is("quantile, k " + k, x.quantile(5, k), StatRows.BAD);
            due.is("quantile of none, k " + k, x.quantile(6, k), StatRows.BAD);
        }
    }

    private static void quantileOfNone() {
        StatRows x = new StatRows();
        x.triple(1, 4, 0);
        for (int k : Limits.inside(1, 8)) {
            due.is("quantile, none came, k " + k, x.quantile(5, k), StatRows.NO);
        }
        x.triple(1, 5, 0);
        due.is("quantile of one", x.quantile(5, 1), 0);
        x.drop(1, 5, 0);
        for (int k : Limits.inside(1, 8)) {
            due.is("quantile, all went, k " + k, x.quantile(5, k), StatRows.NO);
        }
    }

    /** 8 times how many is just as much as k times COUNT at each k of eight; of seven and of nine it never is but at 8. */
    private static void quantileIsAtLeast() {
        StatRows x = new StatRows();
        for (int i = 1; i <= 7; i++) {
            x.triple(i, 0, 10 * i);
        }
        for (int k = 1; k <= 8; k++) {
            due.is("quantile of seven, k " + k, x.quantile(0, k), 10 * Math.min(7, k));
        }
        x.triple(8, 0, 80);
        for (int k = 1; k <= 8; k++) {
            due.is("quantile of eight, k " + k, x.quantile(0, k), 10 * k);
        }
        x.triple(9, 0, 90);
        for (int k = 1; k <= 8; k++) {
            due.is("quantile of nine, k " + k, x.quantile(0, k), 10 * (k + 1));
        }
    }

    private static void quantileAtTheEndsOfNumbers() {
        StatRows x = new StatRows();
        x.triple(1, 0, 0);
        x.triple(1, 0, 255);
        due.is("quantile, half is at 0", x.quantile(0, 4), 0);
        due.is("quantile, more than half is at 255", x.quantile(0, 5), 255);
        due.is("quantile, least k", x.quantile(0, 1), 0);
        due.is("quantile, greatest k", x.quantile(0, 8), 255);
    }

    private static void quantileOfFourHundred() {
        StatRows x = new StatRows();
        for (int i = 0; i < 400; i++) {
            x.triple(i % 200, 7, i < 200 ? 30 : i == 399 ? 255 : 29);
        }
        due.is("quantile of 400, k 1", x.quantile(7, 1), 29);
        due.is("quantile of 400, k 3", x.quantile(7, 3), 29);
        due.is("quantile of 400, k 4: 199 are one short", x.quantile(7, 4), 30);
        due.is("quantile of 400, k 7", x.quantile(7, 7), 30);
        due.is("quantile of 400, k 8: 399 are one short", x.quantile(7, 8), 255);
    }
}
