import java.util.Arrays;

/** What is known of triples (s, p, o) by numbers, kept right with each change. */
public final class StatRows {
    public static final int BAD = -1;
    public static final int NO = -2;
    public static final int FULL = -3;

    private static final int NUMBERS = 256;
    private static final int PREDICATES = 8;
    private static final int PREDICATE_SETS = 256;
    private static final int ANY = -1;

    private static final int PARTS = 8;
    private static final int EIGHTH = 32;

    private final TripleRow triples;
    private final PatternRow patterns;
    private final VersionRow versions;
    private final RegisterRow registers;
    /** One row for all calls that count by number, since rows made by each call would fill the room. */
    private final int[] tally;

    public StatRows() {
        triples = new TripleRow();
        patterns = new PatternRow();
        versions = new VersionRow();
        registers = new RegisterRow();
        tally = new int[NUMBERS];
    }

    public int triple(int s, int p, int o) {
        if (!isTriple(s, p, o)) {
            return BAD;
        }
        return triples.put(p, pair(s, o));
    }

    public int drop(int s, int p, int o) {
        if (!isTriple(s, p, o)) {
            return BAD;
        }
        return triples.remove(p, pair(s, o));
    }

    public int count(int p, int what) {
        if (!isPredicate(p)) {
            return BAD;
        }
        switch (what) {
            case 0:
                return triples.sizeOf(p);
            case 1:
                return subjectsOf(p);
            case 2:
                return objectsOf(p);
            default:
                return BAD;
        }
    }

    public long chain(int p, int q) {
        if (!isPredicate(p) || !isPredicate(q)) {
            return BAD;
        }
        tallyObjects(p, false);
        return sumAtSubjects(q, false);
    }

    public long star(int p, int q) {
        if (!isPredicate(p) || !isPredicate(q)) {
            return BAD;
        }
        clearTally();
        tallySubjects(p);
        return sumAtSubjects(q, false);
    }

    public int bucket(int p, int from, int to) {
        if (!isPredicate(p)) {
            return BAD;
        }
        return withObjectBetween(p, from, to);
    }

    public int quantile(int p, int k) {
        if (!isPredicate(p) || k < 1 || k > PARTS) {
            return BAD;
        }
        int due = k * triples.sizeOf(p);
        if (due == 0) {
            return NO;
        }
        tallyObjects(p, false);
        int seen = 0;
        for (int o = 0; o < NUMBERS; o++) {
            seen += tally[o];
            if (PARTS * seen >= due) {
                return o;
            }
        }
        return NO;
    }

    public int register(int predicates, int i) {
        if (!isPredicateSet(predicates) || i < 0 || i >= RegisterRow.SIZE) {
            return BAD;
        }
        tallySubjectsOfAll(predicates);
        registers.tellAll(tally);
        return registers.rank(i);
    }

    public long distinct(int predicates, int bound) {
        if (!isPredicateSet(predicates) || bound < 0) {
            return BAD;
        }
        tallySubjectsOfAll(predicates);
        int exact = differentInTally();
        if (exact <= bound) {
            return exact;
        }
        registers.tellAll(tally);
        return registers.about();
    }

    public long estimate(int op, int p, int q) {
        if (!isPredicate(p)) {
            return BAD;
        }
        // The filter comes first because its q may be anything.
        if (op == 3) {
            return triples.sizeOf(p) / 3;
        }
        if (!isPredicate(q)) {
            return BAD;
        }
        switch (op) {
            case 0:
                return joinEstimate(p, q, objectsOf(p));
            case 1:
                return joinEstimate(p, q, subjectsOf(p));
            case 2:
                return (long) triples.sizeOf(p) + triples.sizeOf(q);
            case 4:
                return sampledChainEstimate(p, q);
            default:
                return BAD;
        }
    }

    public int range(int p, int from, int to) {
        if (!isPredicate(p)) {
            return BAD;
        }
        int sum = 0;
        for (int j = 0; j < PARTS; j++) {
            int first = EIGHTH * j;
            int last = first + EIGHTH - 1;
            int has = withObjectBetween(p, first, last);
            sum += has * shared(first, last, from, to) / EIGHTH;
        }
        return sum;
    }

    public int sample(int p, int i) {
        if (!isPredicate(p)) {
            return BAD;
        }
        int end = triples.end(p);
        int number = 0;
        for (int at = triples.start(p); at < end; at++) {
            if (triples.isSampled(at)) {
                if (number == i) {
                    return triples.pairAt(at);
                }
                number++;
            }
        }
        return NO;
    }

    public int pattern(int s, int p, int o) {
        if (!isNumberOrAny(s) || !isPredicateOrAny(p) || !isNumberOrAny(o)) {
            return BAD;
        }
        return patterns.rowOf(s, p, o);
    }

    public int matches(int row) {
        if (!patterns.has(row)) {
            return BAD;
        }
        int matching = 0;
        for (int p = 0; p < PREDICATES; p++) {
            int end = triples.end(p);
            for (int at = triples.start(p); at < end; at++) {
                if (patterns.goesWith(row, triples.subjectAt(at), p, triples.objectAt(at))) {
                    matching++;
                }
            }
        }
        return matching;
    }

    public int version() {
        return versions.finish(triples);
    }

    public int countAt(int p, int version) {
        if (!isPredicate(p)) {
            return BAD;
        }
        return versions.sizeAt(p, version);
    }

    public int forget(int version) {
        return versions.forgetBelow(version);
    }

    public int told(int what) {
        switch (what) {
            case 0:
                return triples.size();
            case 1:
                return patterns.size();
            case 2:
                return versions.ended();
            case 3:
                return versions.kept();
            default:
                return BAD;
        }
    }

    private static boolean isNumber(int n) {
        return n >= 0 && n < NUMBERS;
    }

    private static boolean isNumberOrAny(int n) {
        return n == ANY || isNumber(n);
    }

    private static boolean isPredicate(int p) {
        return p >= 0 && p < PREDICATES;
    }

    private static boolean isPredicateOrAny(int p) {
        return p == ANY || isPredicate(p);
    }

    private static boolean isTriple(int s, int p, int o) {
        return isNumber(s) && isPredicate(p) && isNumber(o);
    }

    private static boolean isPredicateSet(int predicates) {
        return predicates >= 0 && predicates < PREDICATE_SETS;
    }

    private static int pair(int s, int o) {
        return NUMBERS * s + o;
    }

    private static int hash(int n) {
        int h = (n + 1) * 0x9E3779B1;
        h ^= h >>> 15;
        h *= 0x85EBCA77;
        return h ^ (h >>> 13);
    }

    /** How many numbers first .. last and from .. to share; no difference is taken before it is known to be small. */
    private static int shared(int first, int last, int from, int to) {
        int low = Math.max(first, from);
        int high = Math.min(last, to);
        return low > high ? 0 : high - low + 1;
    }

    private void clearTally() {
        Arrays.fill(tally, 0);
    }

    private void tallySubjects(int p) {
        int end = triples.end(p);
        for (int at = triples.start(p); at < end; at++) {
            tally[triples.subjectAt(at)]++;
        }
    }

    private void tallySubjectsOfAll(int predicates) {
        clearTally();
        for (int p = 0; p < PREDICATES; p++) {
            if ((predicates >> p & 1) == 1) {
                tallySubjects(p);
            }
        }
    }

    private void tallyObjects(int p, boolean sampledOnly) {
        clearTally();
        int end = triples.end(p);
        for (int at = triples.start(p); at < end; at++) {
            if (!sampledOnly || triples.isSampled(at)) {
                tally[triples.objectAt(at)]++;
            }
        }
    }

    private int differentInTally() {
        int different = 0;
        for (int n = 0; n < NUMBERS; n++) {
            if (tally[n] > 0) {
                different++;
            }
        }
        return different;
    }

    private long sumAtSubjects(int q, boolean sampledOnly) {
        long sum = 0;
        int end = triples.end(q);
        for (int at = triples.start(q); at < end; at++) {
            if (!sampledOnly || triples.isSampled(at)) {
                sum += tally[triples.subjectAt(at)];
            }
        }
        return sum;
    }

    private int subjectsOf(int p) {
        clearTally();
        tallySubjects(p);
        return differentInTally();
    }

    private int objectsOf(int p) {
        tallyObjects(p, false);
        return differentInTally();
    }

    private int withObjectBetween(int p, int from, int to) {
        int found = 0;
        int end = triples.end(p);
        for (int at = triples.start(p); at < end; at++) {
            int o = triples.objectAt(at);
            if (from <= o && o <= to) {
                found++;
            }
        }
        return found;
    }

    private long joinEstimate(int p, int q, int differentOfP) {
        int divisor = Math.max(1, Math.max(differentOfP, subjectsOf(q)));
        return (long) triples.sizeOf(p) * triples.sizeOf(q) / divisor;
    }

    private long sampledChainEstimate(int p, int q) {
        tallyObjects(p, true);
        return 16 * sumAtSubjects(q, true);
    }

    /** The triples, each as its pair 256 s + o, by predicate, then s, then o. */
    private static final class TripleRow {
        static final int MOST = 400;

        private final int[] pairs;
        /** Where each predicate's triples start; the last element is where all end. */
        private final int[] starts;

        TripleRow() {
            pairs = new int[MOST];
            starts = new int[PREDICATES + 1];
        }

        int start(int p) {
            return starts[p];
        }

        int end(int p) {
            return starts[p + 1];
        }

        int sizeOf(int p) {
            return end(p) - start(p);
        }

        int size() {
            return starts[PREDICATES];
        }

        int pairAt(int at) {
            return pairs[at];
        }

        int subjectAt(int at) {
            return pairs[at] >> 8 & 0xFF;
        }

        int objectAt(int at) {
            return pairs[at] & 0xFF;
        }

        boolean isSampled(int at) {
            return (hash(pairs[at]) & 3) == 0;
        }

        int put(int p, int pair) {
            int place = placeOf(p, pair);
            if (isAt(place, p, pair)) {
                return 0;
            }
            if (size() >= MOST) {
                return FULL;
            }
            System.arraycopy(pairs, place, pairs, place + 1, size() - place);
            pairs[place] = pair;
            moveStartsAfter(p, 1);
            return 1;
        }

        int remove(int p, int pair) {
            int place = placeOf(p, pair);
            if (!isAt(place, p, pair)) {
                return 0;
            }
            System.arraycopy(pairs, place + 1, pairs, place, size() - place - 1);
            moveStartsAfter(p, -1);
            return 1;
        }

        private int placeOf(int p, int pair) {
            int end = end(p);
            for (int at = start(p); at < end; at++) {
                if (pairs[at] >= pair) {
                    return at;
                }
            }
            return end;
        }

        private boolean isAt(int place, int p, int pair) {
            return place < end(p) && pairs[place] == pair;
        }

        private void moveStartsAfter(int p, int by) {
            for (int later = p + 1; later <= PREDICATES; later++) {
                starts[later] += by;
            }
        }
    }

    /** The patterns by their row numbers. */
    private static final class PatternRow {
        static final int MOST = 30;

        private final int[] subjects;
        private final int[] predicates;
        private final int[] objects;
        private int used;

        PatternRow() {
            subjects = new int[MOST];
            predicates = new int[MOST];
            objects = new int[MOST];
            used = 0;
        }

        int size() {
            return used;
        }

        boolean has(int row) {
            return row >= 0 && row < used;
        }

        int rowOf(int s, int p, int o) {
            for (int row = 0; row < used; row++) {
                if (subjects[row] == s && predicates[row] == p && objects[row] == o) {
                    return row;
                }
            }
            if (used >= MOST) {
                return FULL;
            }
            subjects[used] = s;
            predicates[used] = p;
            objects[used] = o;
            used++;
            return used - 1;
        }

        boolean goesWith(int row, int s, int p, int o) {
            return allows(subjects[row], s) && allows(predicates[row], p) && allows(objects[row], o);
        }

        private static boolean allows(int asked, int has) {
            return asked == ANY || asked == has;
        }
    }

    /** How many triples each predicate had when a version ended, for the versions that are kept. */
    private static final class VersionRow {
        static final int MOST = 40;

        /** A ring: kept versions are neighbours and at most MOST, so no two of them share a slot. */
        private final int[] sizes;
        private int oldest;
        private int next;

        VersionRow() {
            sizes = new int[MOST * PREDICATES];
            oldest = 0;
            next = 0;
        }

        int ended() {
            return next;
        }

        int kept() {
            return next - oldest;
        }

        int finish(TripleRow triples) {
            // A number beyond the greatest int would be one below 0, and no slot is there.
            if (kept() >= MOST || next == Integer.MAX_VALUE) {
                return FULL;
            }
            for (int p = 0; p < PREDICATES; p++) {
                sizes[place(p, next)] = triples.sizeOf(p);
            }
            next++;
            return next - 1;
        }

        int sizeAt(int p, int version) {
            if (!hasEnded(version)) {
                return BAD;
            }
            return version < oldest ? NO : sizes[place(p, version)];
        }

        int forgetBelow(int version) {
            if (!hasEnded(version)) {
                return BAD;
            }
            int forgotten = Math.max(0, version - oldest);
            oldest += forgotten;
            return forgotten;
        }

        private boolean hasEnded(int version) {
            return version >= 0 && version < next;
        }

        private static int place(int p, int version) {
            return version % MOST * PREDICATES + p;
        }
    }

    /** The registers, told anew by each call that asks for them: a greatest rank can't be taken back when a triple goes. */
    private static final class RegisterRow {
        static final int SIZE = 16;

        private static final int INDEX_BITS = 4;
        private static final int MOST_ZEROS = 28;
        /** ABOUT by how many registers are 0; the first element is never asked for. */
        private static final int[] ABOUT_BY_ZEROS = {
            0, 44, 33, 26, 22, 18, 15, 13, 11, 9, 7, 5, 4, 3, 2, 1, 0
        };

        private final int[] ranks;

        RegisterRow() {
            ranks = new int[SIZE];
        }

        int rank(int i) {
            return ranks[i];
        }

        void tellAll(int[] tally) {
            Arrays.fill(ranks, 0);
            for (int s = 0; s < tally.length; s++) {
                if (tally[s] > 0) {
                    tell(hash(s));
                }
            }
        }

        long about() {
            int zeros = 0;
            long sum = 0;
            for (int i = 0; i < SIZE; i++) {
                if (ranks[i] == 0) {
                    zeros++;
                }
                sum += 1L << (30 - ranks[i]);
            }
            if (zeros > 0) {
                return ABOUT_BY_ZEROS[zeros];
            }
            return (172288L << 30) / (1000 * sum);
        }

        private void tell(int hashed) {
            int i = hashed & (SIZE - 1);
            ranks[i] = Math.max(ranks[i], rankOf(hashed >>> INDEX_BITS));
        }

        private static int rankOf(int bits) {
            int zeros = 0;
            while (zeros < MOST_ZEROS && (bits >>> zeros & 1) == 0) {
                zeros++;
            }
            return zeros + 1;
        }
    }
}
