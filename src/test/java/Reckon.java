/** Numbers as the document reckons them, for what tests expect. */
final class Reckon {
    static final int P = 10007;
    static final int LEAST = Integer.MIN_VALUE, MOST = Integer.MAX_VALUE;

    private Reckon() {
    }

    static int number(long v) {
        return (int) Math.floorMod(v, (long) P);
    }

    static int times(int a, int b) {
        return number((long) number(a) * number(b));
    }

    /** a divided by b, found by trying every number; -1 where there is none. */
    static int part(int a, int b) {
        for (int v = 0; v < P; v++) {
            if (times(v, b) == number(a)) {
                return v;
            }
        }
        return -1;
    }
}
