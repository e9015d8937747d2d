/** The values at a limit: the last that are allowed, and the first that are not, with the ends of int. */
final class Limits {
    private Limits() { }

    static int[] inside(int least, int most) {
        return new int[] {least, most};
    }

    static int[] outside(int least, int most) {
        return new int[] {Integer.MIN_VALUE, least - 1, most + 1, Integer.MAX_VALUE};
    }

    static int[] around(int least, int most) {
        return new int[] {Integer.MIN_VALUE, least - 1, least, most, most + 1, Integer.MAX_VALUE};
    }
}
