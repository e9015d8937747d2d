import java.math.BigInteger;
import java.util.ArrayList;
import java.util.HashMap;
import java.util.HashSet;
import java.util.List;
import java.util.Map;
import java.util.Set;
import java.util.TreeSet;

/** The document's words put down one by one, without any thought of speed: what StatRows is compared with. */
final class Model {
    private static final int BAD = -1;
    private static final int NO = -2;
    private static final int FULL = -3;
    private static final long[] ABOUT = {44, 33, 26, 22, 18, 15, 13, 11, 9, 7, 5, 4, 3, 2, 1, 0};

    record Triple(int s, int p, int o) { }

    private final Set<Triple> triples = new HashSet<>();
    private final List<Triple> patterns = new ArrayList<>();
    private final Map<Integer, int[]> keptVersions = new HashMap<>();
    private int ended = 0;

    static long hash(long n) {
        long mask = 0xFFFFFFFFL;
        long h = (n + 1) * 0x9E3779B1L & mask;
        h = h ^ h / 32768;
        h = BigInteger.valueOf(h).multiply(BigInteger.valueOf(0x85EBCA77L)).and(BigInteger.valueOf(mask)).longValue();
        return h ^ h / 8192;
    }

    static int rank(long n) {
        long bits = hash(n) / 16;
        if (bits == 0) {
            return 29;
        }
        int rank = 1;
        for (; bits % 2 == 0; bits /= 2) {
            rank++;
        }
        return rank;
    }

    private static boolean within(int n, int least, int most) {
        return least <= n && n <= most;
    }

    private static boolean isTriple(int s, int p, int o) {
        return within(s, 0, 255) && within(p, 0, 7) && within(o, 0, 255);
    }

    private List<Triple> of(int p) {
        List<Triple> found = new ArrayList<>();
        for (Triple t : triples) {
            if (t.p() == p) {
                found.add(t);
            }
        }
        return found;
    }

    private List<Triple> sampleOf(int p) {
        List<Triple> found = of(p);
        found.removeIf(t -> hash(256L * t.s() + t.o()) % 4 != 0);
        found.sort((a, b) -> a.s() != b.s() ? a.s() - b.s() : a.o() - b.o());
        return found;
    }

    private Set<Integer> subjects(int predicates) {
        Set<Integer> found = new TreeSet<>();
        for (Triple t : triples) {
            if ((predicates & 1 << t.p()) != 0) {
                found.add(t.s());
            }
        }
        return found;
    }

    private static long chains(List<Triple> left, List<Triple> right) {
        long pairs = 0;
        for (Triple a : left) {
            for (Triple b : right) {
                pairs += a.o() == b.s() ? 1 : 0;
            }
        }
        return pairs;
    }

    int triple(int s, int p, int o) {
        if (!isTriple(s, p, o)) {
            return BAD;
        }
        Triple t = new Triple(s, p, o);
        if (triples.contains(t)) {
            return 0;
        }
        if (triples.size() == 400) {
            return FULL;
        }
        triples.add(t);
        return 1;
    }

    int drop(int s, int p, int o) {
        if (!isTriple(s, p, o)) {
            return BAD;
        }
        return triples.remove(new Triple(s, p, o)) ? 1 : 0;
    }

    int count(int p, int what) {
        if (!within(p, 0, 7) || !within(what, 0, 2)) {
            return BAD;
        }
        if (what == 0) {
            return of(p).size();
        }
        Set<Integer> different = new HashSet<>();
        for (Triple t : of(p)) {
            different.add(what == 1 ? t.s() : t.o());
        }
        return different.size();
    }

    long chain(int p, int q) {
        return within(p, 0, 7) && within(q, 0, 7) ? chains(of(p), of(q)) : BAD;
    }

    long star(int p, int q) {
        if (!within(p, 0, 7) || !within(q, 0, 7)) {
            return BAD;
        }
        long pairs = 0;
        for (Triple a : of(p)) {
            for (Triple b : of(q)) {
                pairs += a.s() == b.s() ? 1 : 0;
            }
        }
        return pairs;
    }

    int bucket(int p, int from, int to) {
        if (!within(p, 0, 7)) {
            return BAD;
        }
        int found = 0;
        for (Triple t : of(p)) {
            found += within(t.o(), from, to) ? 1 : 0;
        }
        return found;
    }

    int quantile(int p, int k) {
        if (!within(p, 0, 7) || !within(k, 1, 8)) {
            return BAD;
        }
        if (of(p).isEmpty()) {
            return NO;
        }
        int o = 0;
        while (8 * bucket(p, 0, o) < k * of(p).size()) {
            o++;
        }
        return o;
    }

    int register(int predicates, int i) {
        if (!within(predicates, 0, 255) || !within(i, 0, 15)) {
            return BAD;
        }
        int greatest = 0;
        for (int s : subjects(predicates)) {
            if (hash(s) % 16 == i) {
                greatest = Math.max(greatest, rank(s));
            }
        }
        return greatest;
    }

    long distinct(int predicates, int bound) {
        if (!within(predicates, 0, 255) || bound < 0) {
            return BAD;
        }
        int exact = subjects(predicates).size();
        if (exact <= bound) {
            return exact;
        }
        int zeros = 0;
        BigInteger sum = BigInteger.ZERO;
        for (int i = 0; i < 16; i++) {
            int r = register(predicates, i);
            zeros += r == 0 ? 1 : 0;
            sum = sum.add(BigInteger.TWO.pow(30 - r));
        }
        if (zeros > 0) {
            return ABOUT[zeros - 1];
        }
        BigInteger above = BigInteger.valueOf(172288).multiply(BigInteger.TWO.pow(30));
        return above.divide(sum.multiply(BigInteger.valueOf(1000))).longValue();
    }

    long estimate(int op, int p, int q) {
        if (!within(op, 0, 4) || !within(p, 0, 7) || op != 3 && !within(q, 0, 7)) {
            return BAD;
        }
        switch (op) {
            case 0:
                return (long) count(p, 0) * count(q, 0) / Math.max(1, Math.max(count(p, 2), count(q, 1)));
            case 1:
                return (long) count(p, 0) * count(q, 0) / Math.max(1, Math.max(count(p, 1), count(q, 1)));
            case 2:
                return count(p, 0) + count(q, 0);
            case 3:
                return count(p, 0) / 3;
            default:
                return 16 * chains(sampleOf(p), sampleOf(q));
        }
    }

    int range(int p, int from, int to) {
        if (!within(p, 0, 7)) {
            return BAD;
        }
        int sum = 0;
        for (int j = 0; j < 8; j++) {
            int asked = 0;
            for (int o = 32 * j; o <= 32 * j + 31; o++) {
                asked += within(o, from, to) ? 1 : 0;
            }
            sum += bucket(p, 32 * j, 32 * j + 31) * asked / 32;
        }
        return sum;
    }

    int sample(int p, int i) {
        if (!within(p, 0, 7)) {
            return BAD;
        }
        List<Triple> all = sampleOf(p);
        return within(i, 0, all.size() - 1) ? 256 * all.get(i).s() + all.get(i).o() : NO;
    }

    int pattern(int s, int p, int o) {
        if (!within(s, -1, 255) || !within(p, -1, 7) || !within(o, -1, 255)) {
            return BAD;
        }
        Triple asked = new Triple(s, p, o);
        if (patterns.contains(asked)) {
            return patterns.indexOf(asked);
        }
        if (patterns.size() == 30) {
            return FULL;
        }
        patterns.add(asked);
        return patterns.size() - 1;
    }

    int matches(int row) {
        if (!within(row, 0, patterns.size() - 1)) {
            return BAD;
        }
        Triple asked = patterns.get(row);
        int found = 0;
        for (Triple t : triples) {
            boolean goes = (asked.s() == -1 || asked.s() == t.s())
                && (asked.p() == -1 || asked.p() == t.p())
                && (asked.o() == -1 || asked.o() == t.o());
            found += goes ? 1 : 0;
        }
        return found;
    }

    int version() {
        if (keptVersions.size() == 40) {
            return FULL;
        }
        int[] counts = new int[8];
        for (int p = 0; p < 8; p++) {
            counts[p] = of(p).size();
        }
        keptVersions.put(ended, counts);
        ended++;
        return ended - 1;
    }

    int countAt(int p, int version) {
        if (!within(p, 0, 7) || !within(version, 0, ended - 1)) {
            return BAD;
        }
        return keptVersions.containsKey(version) ? keptVersions.get(version)[p] : NO;
    }

    int forget(int version) {
        if (!within(version, 0, ended - 1)) {
            return BAD;
        }
        int before = keptVersions.size();
        keptVersions.keySet().removeIf(kept -> kept < version);
        return before - keptVersions.size();
    }

    int told(int what) {
        switch (what) {
            case 0:
                return triples.size();
            case 1:
                return patterns.size();
            case 2:
                return ended;
            case 3:
                return keptVersions.size();
            default:
                return BAD;
        }
    }
}
