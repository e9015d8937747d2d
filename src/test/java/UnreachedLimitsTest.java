import java.lang.reflect.Constructor;
import java.lang.reflect.Field;
import java.lang.reflect.Method;

/**
 * Boundary cases that the document names and no run of calls comes to: the highest bits of HASH, since no s has a rank
 * that looks at them; rank 29, since HASH(s) of no s has only 0 above its four lowest bits; and ABOUT when all 16
 * registers are 0, since no s at all is never more than a bound. That they can't be come to is tested here, and the
 * code that stands for them is called past the public face.
 */
public final class UnreachedLimitsTest {
    private static final Due due = new Due();

    public static void main(String[] args) throws ReflectiveOperationException {
        hashHasThirtyTwoBits();
        noNumberHasRankTwentyNine();
        ranksOfBits();
        aboutNeedsOne();
        aboutOfRegisters();
        due.end();
    }

    private static void hashHasThirtyTwoBits() throws ReflectiveOperationException {
        Method hash = StatRows.class.getDeclaredMethod("hash", int.class);
        hash.setAccessible(true);
        for (int n = -1; n <= 65536; n++) {
            due.is("HASH(" + n + ")", (int) hash.invoke(null, n), (int) Model.hash(n));
        }
        due.is("HASH of the greatest int", (int) hash.invoke(null, Integer.MAX_VALUE), (int) Model.hash(Integer.MAX_VALUE));
    }

    private static void noNumberHasRankTwentyNine() {
        int greatest = 0;
        for (int s = 0; s < 256; s++) {
            greatest = Math.max(greatest, Model.rank(s));
        }
        due.is("the greatest rank of any s", greatest, 8);
        due.is("HASH(-1), which is of no s", Model.hash(-1), 0);
        due.is("its rank", Model.rank(-1), 29);
    }

    private static void ranksOfBits() throws ReflectiveOperationException {
        Method rankOf = registerClass().getDeclaredMethod("rankOf", int.class);
        rankOf.setAccessible(true);
        due.is("rank when the lowest bit is 1", (int) rankOf.invoke(null, 0x0FFFFFFF), 1);
        for (int zeros = 0; zeros < 28; zeros++) {
            due.is("rank after " + zeros + " bits of 0", (int) rankOf.invoke(null, 1 << zeros), zeros + 1);
        }
        due.is("rank when no bit is 1", (int) rankOf.invoke(null, 0), 29);
    }

    private static void aboutNeedsOne() {
        StatRows x = new StatRows();
        due.is("no s, least bound", x.distinct(255, 0), 0);
        due.is("no s, a bound that would be less", x.distinct(255, -1), StatRows.BAD);
    }

    private static void aboutOfRegisters() throws ReflectiveOperationException {
        due.is("about, V = 16", aboutOf(0, 16), 0);
        due.is("about, V = 15", aboutOf(1, 15), 1);
        due.is("about, V = 1, greatest ranks", aboutOf(29, 1), 44);
        due.is("about, V = 0, least ranks", aboutOf(1, 0), 21);
        due.is("about, V = 0, greatest ranks", aboutOf(29, 0), 172288L * (1L << 30) / (1000 * 16 * 2));
    }

    /** ABOUT by registers of which the first so many are 0 and the others have one rank. */
    private static long aboutOf(int rank, int zeros) throws ReflectiveOperationException {
        Constructor<?> constructor = registerClass().getDeclaredConstructor();
        constructor.setAccessible(true);
        Object registers = constructor.newInstance();
        Field ranks = registerClass().getDeclaredField("ranks");
        ranks.setAccessible(true);
        java.util.Arrays.fill((int[]) ranks.get(registers), zeros, 16, rank);
        Method about = registerClass().getDeclaredMethod("about");
        about.setAccessible(true);
        return (long) about.invoke(registers);
    }

    private static Class<?> registerClass() throws ClassNotFoundException {
        return Class.forName("StatRows$RegisterRow");
    }
}
