/** The boundary cases of the terms HASH, REGISTERS, ABOUT, THE SAMPLE and EIGHTHS and of promises 9 to 13. */
public final class EstimateLimitsTest {
    /** For each register, 0 to 15, the least s that is told to it with rank 1. */
    private static final int[] OF_RANK_ONE = {34, 12, 4, 50, 22, 11, 32, 27, 77, 7, 74, 17, 31, 9, 144, 6};
    /** For each register, 0 to 15, an s that is told to it with the greatest rank that any s has there. */
    private static final int[] OF_GREATEST_RANK = {
        240, 232, 184, 203, 60, 100, 28, 99, 128, 30, 201, 251, 249, 170, 107, 220
    };
    private static final int[] GREATEST_RANKS = {6, 4, 5, 7, 4, 6, 5, 8, 5, 5, 7, 4, 2, 4, 5, 4};
    /** ABOUT when 1, 2, .. 16 registers are 0. */
    private static final int[] ABOUT = {44, 33, 26, 22, 18, 15, 13, 11, 9, 7, 5, 4, 3, 2, 1, 0};

    private static final Due due = new Due();

    public static void main(String[] args) {
        registerPredicatesAreWithin();
        registerNumberIsWithin();
        registerOfEachPredicateAlone();
        registersWithoutAny();
        registerOfEachNumber();
        registerHasTheGreatestRank();
        distinctPredicatesAreWithin();
        distinctBoundIsNotBelowZero();
        distinctAtTheBound();
        distinctOfNone();
        distinctOfAllNumbers();
        aboutWithRegistersOfZero();
        aboutWithHighRanksAndZeros();
        aboutWithoutRegistersOfZero();
        estimateOpIsWithin();
        estimatePredicatesAreWithin();
        filterLooksAtNoQ();
        estimatesOfNone();
        estimatesRoundDown();
        greatestEstimates();
        rangePredicateIsWithin();
        rangeFromIsGreater();
        rangeOfEachEighth();
        rangeRoundsEachEighthDown();
        rangeBeyondAllNumbers();
        samplePredicateIsWithin();
        sampleNumberIsWithin();
        sampleOfNone();
        sampleIsByNumbers();
        sampleOfEachPair();
        due.end();
    }

    private static void registerPredicatesAreWithin() {
        StatRows x = new StatRows();
        x.triple(5, 0, 0);
        due.is("register of set 0", x.register(0, 15), 0);
        due.is("register of set 255", x.register(255, 15), 4);
        for (int set : Limits.outside(0, 255)) {
            due.is("register of set " + set, x.register(set, 15), StatRows.BAD);
            due.is("register of set " + set + ", number wrong too", x.register(set, 16), StatRows.BAD);
        }
        due.is("register of set 257 (1 in its low byte)", x.register(257, 15), StatRows.BAD);
    }

    private static void registerNumberIsWithin() {
        StatRows x = new StatRows();
        x.triple(3, 0, 0);
        x.triple(5, 0, 0);
        due.is("register 0", x.register(1, 0), Model.rank(3));
        due.is("register 15", x.register(1, 15), 4);
        for (int i : Limits.outside(0, 15)) {
            due.is("register " + i, x.register(1, i), StatRows.BAD);
            due.is("register " + i + " of no predicates", x.register(0, i), StatRows.BAD);
        }
    }

    private static void registerOfEachPredicateAlone() {
        for (int p = 0; p < 8; p++) {
            StatRows x = new StatRows();
            x.triple(5, p, 0);
            due.is("register of " + p + " alone", x.register(1 << p, 15), 4);
            due.is("register of all but " + p, x.register(255 - (1 << p), 15), 0);
            due.is("distinct of " + p + " alone", x.distinct(1 << p, 1), 1);
            due.is("distinct of all but " + p, x.distinct(255 - (1 << p), 1), 0);
        }
    }

    private static void registersWithoutAny() {
        StatRows x = new StatRows();
        x.triple(5, 3, 0);
        for (int i = 0; i < 15; i++) {
            due.is("register " + i + ", another one is told", x.register(255, i), 0);
        }
        x.drop(5, 3, 0);
        for (int i = 0; i < 16; i++) {
            due.is("register " + i + ", all went", x.register(255, i), 0);
        }
    }

    /** All that is told of HASH for s: its register and its rank, alone in a new object. */
    private static void registerOfEachNumber() {
        for (int s = 0; s < 256; s++) {
            StatRows x = new StatRows();
            x.triple(s, 7, 255);
            int own = (int) (Model.hash(s) % 16);
            for (int i = 0; i < 16; i++) {
                due.is("register " + i + " of s " + s, x.register(128, i), i == own ? Model.rank(s) : 0);
            }
        }
    }

    private static void registerHasTheGreatestRank() {
        StatRows x = new StatRows();
        for (int i = 0; i < 16; i++) {
            x.triple(OF_RANK_ONE[i], 0, 0);
            due.is("register " + i + ", least rank", x.register(1, i), 1);
            x.triple(OF_GREATEST_RANK[i], 0, 0);
            due.is("register " + i + ", greatest rank", x.register(1, i), GREATEST_RANKS[i]);
            x.drop(OF_RANK_ONE[i], 0, 0);
            due.is("register " + i + ", the lesser one went", x.register(1, i), GREATEST_RANKS[i]);
            x.triple(OF_RANK_ONE[i], 0, 0);
            x.drop(OF_GREATEST_RANK[i], 0, 0);
            due.is("register " + i + ", the greatest one went", x.register(1, i), 1);
            x.drop(OF_RANK_ONE[i], 0, 0);
            due.is("register " + i + ", all went", x.register(1, i), 0);
        }
    }

    private static void distinctPredicatesAreWithin() {
        StatRows x = new StatRows();
        x.triple(5, 0, 0);
        x.triple(6, 7, 0);
        due.is("distinct of set 0", x.distinct(0, 9), 0);
        due.is("distinct of set 255", x.distinct(255, 9), 2);
        for (int set : Limits.outside(0, 255)) {
            due.is("distinct of set " + set, x.distinct(set, 9), StatRows.BAD);
            due.is("distinct of set " + set + ", bound wrong too", x.distinct(set, -1), StatRows.BAD);
        }
        due.is("distinct of set 257 (1 in its low byte)", x.distinct(257, 9), StatRows.BAD);
    }

    private static void distinctBoundIsNotBelowZero() {
        StatRows x = new StatRows();
        x.triple(5, 0, 0);
        due.is("distinct, bound 0", x.distinct(0, 0), 0);
        due.is("distinct, bound -1", x.distinct(1, -1), StatRows.BAD);
        due.is("distinct of no predicates, bound -1", x.distinct(0, -1), StatRows.BAD);
        due.is("distinct, bound is least int", x.distinct(1, Integer.MIN_VALUE), StatRows.BAD);
        due.is("distinct, bound is greatest int", x.distinct(1, Integer.MAX_VALUE), 1);
    }

    /** 5 and 6 are told to one register, so that ABOUT differs from how many there are. */
    private static void distinctAtTheBound() {
        StatRows x = new StatRows();
        x.triple(5, 0, 0);
        x.triple(6, 1, 0);
        due.is("distinct of two, bound 3", x.distinct(3, 3), 2);
        due.is("distinct of two, bound 2", x.distinct(3, 2), 2);
        due.is("distinct of two, bound 1: about", x.distinct(3, 1), 1);
        due.is("distinct of two, bound 0: about", x.distinct(3, 0), 1);
        x.triple(5, 1, 0);
        due.is("distinct of two, one with both predicates, bound 2", x.distinct(3, 2), 2);
        x.drop(6, 1, 0);
        due.is("distinct of one with both predicates, bound 1", x.distinct(3, 1), 1);
    }

    private static void distinctOfNone() {
        StatRows x = new StatRows();
        due.is("distinct of nothing, bound 0", x.distinct(255, 0), 0);
        x.triple(5, 2, 0);
        due.is("distinct of others, bound 0", x.distinct(251, 0), 0);
        due.is("distinct of no predicates, bound 0", x.distinct(0, 0), 0);
        x.drop(5, 2, 0);
        due.is("distinct when all went, bound 0", x.distinct(255, 0), 0);
    }

    private static void distinctOfAllNumbers() {
        StatRows x = new StatRows();
        for (int s = 0; s < 256; s++) {
            x.triple(s, 7, s);
        }
        due.is("distinct of 256, bound 257", x.distinct(128, 257), 256);
        due.is("distinct of 256, bound 256", x.distinct(128, 256), 256);
        due.is("distinct of 256, bound 255: 223.88 about", x.distinct(128, 255), 223);
        due.is("distinct of 256, bound 0: about", x.distinct(128, 0), 223);
    }

    private static void aboutWithRegistersOfZero() {
        StatRows x = new StatRows();
        for (int i = 0; i < 15; i++) {
            x.triple(OF_RANK_ONE[i], 7, 0);
            int zeros = 15 - i;
            due.is("about, V = " + zeros, x.distinct(128, 0), ABOUT[zeros - 1]);
            due.is("known, V = " + zeros, x.distinct(128, i + 1), i + 1);
        }
    }

    /** With a register that is 0 the ranks of the others are not looked at. */
    private static void aboutWithHighRanksAndZeros() {
        StatRows x = new StatRows();
        for (int i = 15; i > 0; i--) {
            x.triple(OF_GREATEST_RANK[i], 0, 0);
            due.is("about, high ranks, V = " + i, x.distinct(1, 0), ABOUT[i - 1]);
        }
        x.triple(OF_GREATEST_RANK[0], 0, 0);
        due.is("about, high ranks, V = 0", x.distinct(1, 0), 223);
    }

    /** 21.536 is the least that the formula comes to, since no register has less than rank 1 then. */
    private static void aboutWithoutRegistersOfZero() {
        StatRows x = new StatRows();
        for (int s : OF_RANK_ONE) {
            x.triple(s, 7, 0);
        }
        due.is("about, V = 0, all ranks 1", x.distinct(128, 15), 21);
        due.is("known, V = 0", x.distinct(128, 16), 16);
        x.drop(OF_RANK_ONE[15], 7, 0);
        due.is("about, V = 1 again", x.distinct(128, 14), 44);
    }

    private static void estimateOpIsWithin() {
        StatRows x = new StatRows();
        x.triple(0, 0, 0);
        x.triple(0, 0, 1);
        x.triple(0, 0, 3);
        due.is("estimate, op 0, the first", x.estimate(0, 0, 0), 3);
        due.is("estimate, op 4, the last", x.estimate(4, 0, 0), 16 * (Model.hash(0) % 4 == 0 ? 3 : 0));
        for (int op : Limits.outside(0, 4)) {
            due.is("estimate, op " + op, x.estimate(op, 0, 0), StatRows.BAD);
            due.is("estimate of none, op " + op, x.estimate(op, 6, 7), StatRows.BAD);
            due.is("estimate, op " + op + ", p wrong too", x.estimate(op, 8, 0), StatRows.BAD);
            due.is("estimate, op " + op + ", q wrong too", x.estimate(op, 0, 8), StatRows.BAD);
        }
    }

    private static void estimatePredicatesAreWithin() {
        StatRows x = new StatRows();
        x.triple(0, 0, 0);
        x.triple(0, 7, 0);
        long[] ofOneAndOne = {1, 1, 2, 0, 0};
        for (int op = 0; op <= 4; op++) {
            due.is("estimate " + op + " of 0, 7", x.estimate(op, 0, 7), ofOneAndOne[op]);
            due.is("estimate " + op + " of 7, 0", x.estimate(op, 7, 0), ofOneAndOne[op]);
            for (int wrong : Limits.outside(0, 7)) {
                due.is("estimate " + op + " of " + wrong + ", 0", x.estimate(op, wrong, 0), StatRows.BAD);
                due.is("estimate " + op + " of both " + wrong, x.estimate(op, wrong, wrong), StatRows.BAD);
                if (op != 3) {
                    due.is("estimate " + op + " of 0, " + wrong, x.estimate(op, 0, wrong), StatRows.BAD);
                }
            }
        }
    }

    private static void filterLooksAtNoQ() {
        StatRows x = new StatRows();
        for (int o = 0; o < 6; o++) {
            x.triple(o, 7, o);
        }
        for (int q : Limits.around(0, 7)) {
            due.is("a filter, q " + q, x.estimate(3, 7, q), 2);
            due.is("a filter on none, q " + q, x.estimate(3, 6, q), 0);
            due.is("a filter on p 8, q " + q, x.estimate(3, 8, q), StatRows.BAD);
        }
    }

    /** Without any triple the divisor is 1, the last of the three. */
    private static void estimatesOfNone() {
        StatRows x = new StatRows();
        for (int op = 0; op <= 4; op++) {
            due.is("estimate " + op + " of none", x.estimate(op, 0, 7), 0);
            due.is("estimate " + op + " of none alike", x.estimate(op, 0, 0), 0);
        }
        x.triple(1, 0, 1);
        due.is("CHAIN of one and none", x.estimate(0, 0, 7), 0);
        due.is("CHAIN of none and one", x.estimate(0, 7, 0), 0);
        due.is("STAR of one and none", x.estimate(1, 0, 7), 0);
        due.is("both of one and none", x.estimate(2, 0, 7), 1);
        due.is("both of none and one", x.estimate(2, 7, 0), 1);
    }

    private static void estimatesRoundDown() {
        StatRows x = new StatRows();
        long[] thirds = {0, 0, 1, 1, 1, 2};
        for (int i = 0; i < 6; i++) {
            x.triple(i, 0, 0);
            due.is("a filter on " + (i + 1), x.estimate(3, 0, 0), thirds[i]);
        }
        x.triple(1, 1, 1);
        x.triple(1, 1, 2);
        x.triple(1, 1, 3);
        x.triple(2, 1, 3);
        x.triple(2, 1, 4);
        due.is("CHAIN, 25 / 4", x.estimate(0, 1, 1), 6);
        due.is("CHAIN, 30 / 6", x.estimate(0, 1, 0), 5);
        due.is("CHAIN, 30 / 2", x.estimate(0, 0, 1), 15);
        due.is("STAR, 25 / 2", x.estimate(1, 1, 1), 12);
        due.is("STAR, 30 / 6", x.estimate(1, 0, 1), 5);
    }

    private static void greatestEstimates() {
        StatRows x = new StatRows();
        for (int i = 0; i < 200; i++) {
            x.triple(i, 0, 255);
            x.triple(255, 7, i);
        }
        due.is("CHAIN, one divides 200 times 200", x.estimate(0, 0, 7), 40000);
        due.is("CHAIN, 200 divide", x.estimate(0, 7, 0), 200);
        due.is("STAR, one divides 200 times 200", x.estimate(1, 7, 7), 40000);
        due.is("both together, all", x.estimate(2, 0, 7), 400);
        due.is("both alike", x.estimate(2, 7, 7), 400);
        due.is("a filter on 200", x.estimate(3, 7, 0), 66);
        long sampledAt255 = 0;
        long sampledFrom255 = 0;
        for (int i = 0; i < 200; i++) {
            sampledAt255 += Model.hash(256 * i + 255) % 4 == 0 ? 1 : 0;
            sampledFrom255 += Model.hash(256 * 255 + i) % 4 == 0 ? 1 : 0;
        }
        due.is("CHAIN by SAMPLES, all through one", x.estimate(4, 0, 7), 16 * sampledAt255 * sampledFrom255);
    }

    private static void rangePredicateIsWithin() {
        StatRows x = new StatRows();
        x.triple(1, 0, 1);
        x.triple(1, 7, 1);
        for (int p : Limits.inside(0, 7)) {
            due.is("range of " + p, x.range(p, 0, 255), 1);
        }
        for (int p : Limits.outside(0, 7)) {
            due.is("range of " + p, x.range(p, 0, 255), StatRows.BAD);
            due.is("range of " + p + ", from is greater", x.range(p, 2, 1), StatRows.BAD);
        }
    }

    private static void rangeFromIsGreater() {
        StatRows x = thirtyTwoAt(100);
        due.is("range, from is to", x.range(7, 100, 100), 1);
        due.is("range, from is one less", x.range(7, 100, 101), 2);
        due.is("range, from is one greater", x.range(7, 101, 100), 0);
        due.is("range, from is much greater", x.range(7, 127, 96), 0);
        due.is("range, from 255, to 0", x.range(7, 255, 0), 0);
        due.is("range, from is greatest int, to is least", x.range(7, Integer.MAX_VALUE, Integer.MIN_VALUE), 0);
    }

    /** Of 32 triples in an eighth each of its numbers that is asked for tells one, wherever the triples stand in it. */
    private static void rangeOfEachEighth() {
        for (int j = 0; j < 8; j++) {
            int first = 32 * j;
            int last = 32 * j + 31;
            for (int o : new int[] {first, last}) {
                StatRows x = thirtyTwoAt(o);
                due.is("eighth of " + o + ", its first", x.range(7, first, first), 1);
                due.is("eighth of " + o + ", its last", x.range(7, last, last), 1);
                due.is("eighth of " + o + ", before it", x.range(7, first - 1, first - 1), 0);
                due.is("eighth of " + o + ", after it", x.range(7, last + 1, last + 1), 0);
                due.is("eighth of " + o + ", all", x.range(7, first, last), 32);
                due.is("eighth of " + o + ", all and more", x.range(7, first - 1, last + 1), 32);
                due.is("eighth of " + o + ", all but the first", x.range(7, first + 1, last), 31);
                due.is("eighth of " + o + ", all but the last", x.range(7, first, last - 1), 31);
                due.is("eighth of " + o + ", all before it", x.range(7, Integer.MIN_VALUE, first - 1), 0);
                due.is("eighth of " + o + ", all after it", x.range(7, last + 1, Integer.MAX_VALUE), 0);
            }
        }
    }

    private static StatRows thirtyTwoAt(int o) {
        StatRows x = new StatRows();
        for (int s = 0; s < 32; s++) {
            x.triple(8 * s, 7, o);
        }
        return x;
    }

    private static void rangeRoundsEachEighthDown() {
        StatRows x = new StatRows();
        for (int s = 0; s < 31; s++) {
            x.triple(s, 0, 31);
            x.triple(s, 0, 32);
        }
        due.is("range, 31 / 32", x.range(0, 31, 31), 0);
        due.is("range, 31 / 32 and 31 / 32", x.range(0, 31, 32), 0);
        due.is("range, 62 / 32 and 62 / 32", x.range(0, 30, 33), 2);
        due.is("range, 31 times 31 / 32", x.range(0, 0, 30), 30);
        due.is("range, 31 times 32 / 32", x.range(0, 0, 31), 31);
        due.is("range of both eighths", x.range(0, 0, 63), 62);
        StatRows y = new StatRows();
        for (int i = 0; i < 400; i++) {
            y.triple(i % 200, 7, 224 + i / 200);
        }
        due.is("range of 400 in one eighth", y.range(7, 224, 255), 400);
        due.is("range of 400, one number", y.range(7, 255, 255), 12);
        due.is("range of 400, all but one number", y.range(7, 225, 255), 387);
    }

    private static void rangeBeyondAllNumbers() {
        StatRows x = new StatRows();
        x.triple(1, 2, 0);
        x.triple(1, 2, 255);
        due.is("range of all ints", x.range(2, Integer.MIN_VALUE, Integer.MAX_VALUE), 2);
        due.is("range, least int to -1", x.range(2, Integer.MIN_VALUE, -1), 0);
        due.is("range, least int to 31", x.range(2, Integer.MIN_VALUE, 31), 1);
        due.is("range, least int to 30", x.range(2, Integer.MIN_VALUE, 30), 0);
        due.is("range, 224 to greatest int", x.range(2, 224, Integer.MAX_VALUE), 1);
        due.is("range, 225 to greatest int", x.range(2, 225, Integer.MAX_VALUE), 0);
        due.is("range, 256 to greatest int", x.range(2, 256, Integer.MAX_VALUE), 0);
        due.is("range, least int alone", x.range(2, Integer.MIN_VALUE, Integer.MIN_VALUE), 0);
        due.is("range, greatest int alone", x.range(2, Integer.MAX_VALUE, Integer.MAX_VALUE), 0);
    }

    private static void samplePredicateIsWithin() {
        StatRows x = new StatRows();
        x.triple(0, 0, 3);
        x.triple(0, 7, 3);
        for (int p : Limits.inside(0, 7)) {
            due.is("sample of " + p, x.sample(p, 0), 3);
        }
        for (int p : Limits.outside(0, 7)) {
            for (int i : Limits.around(0, 0)) {
                due.is("sample " + i + " of " + p, x.sample(p, i), StatRows.BAD);
            }
        }
    }

    /** (0, 1), (0, 3) and (3, 2) are in the sample, (0, 2) is not. */
    private static void sampleNumberIsWithin() {
        StatRows x = new StatRows();
        x.triple(0, 5, 1);
        x.triple(0, 5, 2);
        x.triple(0, 5, 3);
        x.triple(3, 5, 2);
        due.is("sample, the first", x.sample(5, 0), 1);
        due.is("sample, the last", x.sample(5, 2), 770);
        for (int i : Limits.outside(0, 2)) {
            due.is("sample " + i, x.sample(5, i), StatRows.NO);
        }
        x.drop(3, 5, 2);
        due.is("sample, the last went", x.sample(5, 2), StatRows.NO);
        due.is("sample, the last is another", x.sample(5, 1), 3);
    }

    private static void sampleOfNone() {
        StatRows x = new StatRows();
        due.is("sample of no triples", x.sample(0, 0), StatRows.NO);
        x.triple(0, 0, 2);
        due.is("no triple is in the sample", x.sample(0, 0), StatRows.NO);
        x.triple(0, 0, 1);
        due.is("one is in the sample", x.sample(0, 0), 1);
        x.drop(0, 0, 1);
        due.is("it went", x.sample(0, 0), StatRows.NO);
    }

    /** In the sample are (0, 1), (0, 3), (3, 2) and (3, 12): o alone would tell another order. */
    private static void sampleIsByNumbers() {
        StatRows x = new StatRows();
        x.triple(3, 1, 12);
        x.triple(3, 1, 2);
        x.triple(0, 1, 3);
        x.triple(0, 1, 1);
        int[] pairs = {1, 3, 770, 780};
        for (int i = 0; i < 4; i++) {
            due.is("sample by s, then o: " + i, x.sample(1, i), pairs[i]);
        }
    }

    /** Each pair 256 s + o, from 0 to 65535, in rows of 256: whether it is in the sample, by HASH. */
    private static void sampleOfEachPair() {
        for (int s = 0; s < 256; s++) {
            StatRows x = new StatRows();
            for (int o = 255; o >= 0; o--) {
                x.triple(s, s % 8, o);
            }
            int number = 0;
            for (int o = 0; o < 256; o++) {
                if (Model.hash(256L * s + o) % 4 == 0) {
                    due.is("sample " + number + " of s " + s, x.sample(s % 8, number), 256 * s + o);
                    number++;
                }
            }
            due.is("sample of s " + s + ", no more", x.sample(s % 8, number), StatRows.NO);
        }
    }
}
