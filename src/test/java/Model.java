import java.lang.reflect.Array;
import java.math.BigInteger;
import java.util.ArrayList;
import java.util.List;

/**
 * The document once more, by other ways than the class takes, and as slow as it likes: sheets are real Java
 * rows, roots of equations come from whole-number determinants, ranks from minors, common forms from the
 * other letter.
 */
final class Model {
    static final int P = 10007;
    private static final int BAD = -2, NOT = -3;
    private static final BigInteger BIG_P = BigInteger.valueOf(P);

    private final Object[] rows = new Object[10];
    private int finding = 0;

    // ---- sheets

    int sheet(int s, int kind, int n) {
        if (bad(s) || kind < 0 || kind > 2 || n > 12) {
            return BAD;
        }
        if (n < 0) {
            return find(5);
        }
        rows[s] = kind == 0 ? new byte[n] : kind == 1 ? new short[n] : new int[n];
        return n;
    }

    int lose(int s) {
        if (bad(s)) {
            return BAD;
        }
        if (rows[s] == null) {
            return find(1);
        }
        int had = Array.getLength(rows[s]);
        rows[s] = null;
        return had;
    }

    int put(int s, int kind, int i, int v) {
        if (bad(s) || kind < 0 || kind > 2) {
            return BAD;
        }
        if (rows[s] == null) {
            return find(1);
        }
        if (kindOf(rows[s]) != kind) {
            return find(3);
        }
        try {
            if (kind == 0) {
                ((byte[]) rows[s])[i] = (byte) v;
            } else if (kind == 1) {
                ((short[]) rows[s])[i] = (short) v;
            } else {
                ((int[]) rows[s])[i] = v;
            }
        } catch (ArrayIndexOutOfBoundsException e) {
            return find(2);
        }
        return 1;
    }

    int get(int s, int kind, int i) {
        if (bad(s) || kind < 0 || kind > 2) {
            return Integer.MIN_VALUE;
        }
        int number = rows[s] == null ? 1 : kindOf(rows[s]) != kind ? 3 : i < 0 || i >= Array.getLength(rows[s]) ? 2 : 0;
        if (number != 0) {
            find(number);
            return Integer.MIN_VALUE;
        }
        return Array.getInt(rows[s], i);
    }

    int copy(int s, int i, int t, int j, int n) {
        if (bad(s) || bad(t)) {
            return BAD;
        }
        try {
            System.arraycopy(rows[s], i, rows[t], j, n);
        } catch (NullPointerException e) {
            return find(1);
        } catch (ArrayStoreException e) {
            return find(4);
        } catch (IndexOutOfBoundsException e) {
            return find(2);
        }
        return 1;
    }

    // ---- forms

    int term(int s, int i) {
        if (i < 0 || i > 8) {
            return BAD;
        }
        int no = refuse(s);
        return no != 0 ? no : i < form(s).length ? form(s)[i] : 0;
    }

    int degree(int s) {
        int no = refuse(s);
        return no != 0 ? no : form(s).length - 1;
    }

    int value(int s, int x, int y) {
        int no = refuse(s);
        return no != 0 ? no : at(form(s), x, y);
    }

    int join(int s, int t, int u, int what) {
        if (bad(u) || what < 0 || what > 3) {
            return BAD;
        }
        int no = refuse(s, t);
        if (no != 0) {
            return no;
        }
        int[] f = form(s);
        int[] g = form(t);
        int[] h;
        if (what == 2) {
            h = product(f, g);
            if (h.length > 9) {
                return NOT;
            }
        } else {
            if (what < 2 && f.length != g.length) {
                return NOT;
            }
            h = new int[f.length];
            for (int i = 0; i < f.length; i++) {
                h[i] = what == 0 ? mod(f[i] + g[i]) : what == 1 ? mod(f[i] - g[i]) : mod((long) f[i] * g[0]);
            }
        }
        rows[u] = h;
        return h.length - 1;
    }

    int mix(int s, int a, int b, int c, int d, int u) {
        if (bad(u)) {
            return BAD;
        }
        int no = refuse(s);
        if (no != 0) {
            return no;
        }
        rows[u] = mixed(form(s), a, b, c, d);
        BigInteger bottom = BigInteger.valueOf(a).multiply(BigInteger.valueOf(d))
            .subtract(BigInteger.valueOf(b).multiply(BigInteger.valueOf(c)));
        return bottom.mod(BIG_P).intValue();
    }

    int change(int s, int what, int u) {
        if (bad(u) || what < 0 || what > 1) {
            return BAD;
        }
        int no = refuse(s);
        if (no != 0) {
            return no;
        }
        if (form(s).length == 1) {
            return NOT;
        }
        rows[u] = changed(form(s), 1 - what, what);
        return form(u).length - 1;
    }

    int overlap(int s, int t, int k, int u) {
        if (bad(u) || k < 0 || k > 8) {
            return BAD;
        }
        int no = refuse(s, t);
        if (no != 0) {
            return no;
        }
        int[] f = form(s);
        int[] g = form(t);
        int m = f.length - 1;
        int n = g.length - 1;
        if (k > m || k > n || m + n - 2 * k > 8) {
            return NOT;
        }
        int[] sum = new int[m + n - 2 * k + 1];
        for (int i = 0; i <= k; i++) {
            int[] part = product(changed(f, k - i, i), changed(g, i, k - i));
            long before = choose(k, i).longValue() * (i % 2 == 0 ? 1 : -1);
            for (int q = 0; q < sum.length; q++) {
                sum[q] = mod(sum[q] + before * part[q]);
            }
        }
        // m (m - 1) .. (m - k + 1) and the same of n
        long by = mod((long) mod(falling(m, k)) * mod(falling(n, k)));
        for (int q = 0; q < sum.length; q++) {
            sum[q] = mod(sum[q] * (long) inverse(by));
        }
        rows[u] = sum;
        return sum.length - 1;
    }

    int alike(int s, int t) {
        int no = refuse(s, t);
        if (no != 0) {
            return no;
        }
        if (form(s).length != form(t).length) {
            return 0;
        }
        for (int c = 1; c < P; c++) {
            boolean same = true;
            for (int i = 0; i < form(s).length && same; i++) {
                same = mod((long) c * form(s)[i]) == form(t)[i];
            }
            if (same) {
                return c;
            }
        }
        return 0;
    }

    // ---- roots

    int roots(int s) {
        int no = refuseNought(s);
        return no != 0 ? no : rootsOf(form(s)).size();
    }

    int root(int s, int i) {
        if (i < 0) {
            return BAD;
        }
        int no = refuseNought(s);
        if (no != 0) {
            return no;
        }
        List<Integer> all = rootsOf(form(s));
        return i < all.size() ? all.get(i) : -1;
    }

    int common(int s, int t, int u) {
        if (bad(u)) {
            return BAD;
        }
        int no = refuseNought(s, t);
        if (no != 0) {
            return no;
        }
        int[] f = form(s);
        int[] g = form(t);
        int shared = Math.min(zerosBehind(f), zerosBehind(g));
        int[] h = greatest(f, g);
        int[] all = new int[h.length + shared];
        long first = 0;
        for (int i = h.length - 1; i >= 0; i--) {
            first = h[i] != 0 ? h[i] : first;
        }
        for (int i = 0; i < h.length; i++) {
            all[i] = mod(h[i] * (long) inverse(first));
        }
        rows[u] = all;
        return all.length - 1;
    }

    int result(int s, int t) {
        int no = refuse(s, t);
        if (no != 0) {
            return no;
        }
        int m = form(s).length - 1;
        int n = form(t).length - 1;
        if (m == 0 || n == 0) {
            return NOT;
        }
        BigInteger[][] table = new BigInteger[m + n][m + n];
        for (int r = 0; r < m + n; r++) {
            for (int c = 0; c < m + n; c++) {
                int[] from = r < n ? form(s) : form(t);
                int i = c - (r < n ? r : r - n);
                table[r][c] = BigInteger.valueOf(i >= 0 && i < from.length ? from[i] : 0);
            }
        }
        return determinant(table).mod(BIG_P).intValue();
    }

    // ---- powers

    int powers(int s, int t, int k, int u) {
        if (bad(s) || bad(t) || bad(u) || k < 1 || k > 9) {
            return BAD;
        }
        if (rows[s] == null || rows[t] == null) {
            return find(1);
        }
        if (!isForm(s) || k > form(s).length) {
            return NOT;
        }
        if (Array.getLength(rows[t]) < k) {
            return find(2);
        }
        int[] r = new int[k];
        for (int j = 0; j < k; j++) {
            r[j] = mod(Array.getInt(rows[t], j));
            for (int i = 0; i < j; i++) {
                if (r[i] == r[j]) {
                    return NOT;
                }
            }
        }
        int[] f = form(s);
        int[] c = cramer(f, r);
        int[] again = sumOfPowers(r, c, k, f.length - 1);
        if (!java.util.Arrays.equals(again, f)) {
            return NOT;
        }
        rows[u] = c;
        return k;
    }

    int build(int s, int t, int k, int n, int u) {
        if (bad(s) || bad(t) || bad(u) || k < 0 || k > 12 || n < 0 || n > 8) {
            return BAD;
        }
        if (rows[s] == null || rows[t] == null) {
            return find(1);
        }
        if (Array.getLength(rows[s]) < k || Array.getLength(rows[t]) < k) {
            return find(2);
        }
        rows[u] = sumOfPowers(items(s), items(t), k, n);
        return n;
    }

    int rank(int s, int k) {
        if (k < 0) {
            return BAD;
        }
        int no = refuse(s);
        if (no != 0) {
            return no;
        }
        int n = form(s).length - 1;
        if (k > n) {
            return NOT;
        }
        BigInteger[][] square = new BigInteger[k + 1][n - k + 1];
        for (int i = 0; i <= k; i++) {
            for (int j = 0; j <= n - k; j++) {
                long by = inverse(choose(n, i + j).longValue());
                square[i][j] = BigInteger.valueOf(mod(form(s)[i + j] * by));
            }
        }
        return byMinors(square);
    }

    // ---- what stays

    int leads(int s, int t, int b) {
        int no = refuseLeads(s, t, b);
        return no != 0 ? no : leadsOf(form(s), form(t), b).size();
    }

    int lead(int s, int t, int b, int i) {
        if (i < 0) {
            return BAD;
        }
        int no = refuseLeads(s, t, b);
        if (no != 0) {
            return no;
        }
        List<Integer> all = leadsOf(form(s), form(t), b);
        return i < all.size() ? all.get(i) : -1;
    }

    int staying(int n, int d, int e) {
        if (n < 1 || n > 8 || d < 0 || d > 8 || e < 0 || e > n * d) {
            return BAD;
        }
        if ((n * d - e) % 2 != 0) {
            return 0;
        }
        int w = (n * d - e) / 2;
        return sums(w, d, n) - sums(w - 1, d, n);
    }

    int count(int what) {
        if (what < 0 || what > 2) {
            return BAD;
        }
        int count = 0;
        for (int s = 0; s < 10; s++) {
            if (what == 0 ? rows[s] != null : isForm(s)) {
                count++;
            }
        }
        return what == 1 ? finding : count;
    }

    long digest() {
        List<Integer> all = new ArrayList<>();
        all.add(count(0));
        all.add(count(2));
        for (int s = 0; s < 10; s++) {
            if (isForm(s)) {
                all.add(s);
                all.add(form(s).length - 1);
                for (int a : form(s)) {
                    all.add(a);
                }
            }
        }
        BigInteger h = BigInteger.valueOf(17);
        for (int v : all) {
            h = h.multiply(BigInteger.valueOf(31)).add(BigInteger.valueOf(v));
        }
        return h.longValue();
    }

    /** How many items there are if the sheet is of this kind; else -1. */
    int sizeAs(int s, int kind) {
        return rows[s] != null && kindOf(rows[s]) == kind ? Array.getLength(rows[s]) : -1;
    }

    // ---- refusals

    private static boolean bad(int s) {
        return s < 0 || s > 9;
    }

    private int find(int number) {
        finding = number;
        return -10 - number;
    }

    private boolean isForm(int s) {
        return rows[s] != null && Array.getLength(rows[s]) >= 1 && Array.getLength(rows[s]) <= 9;
    }

    private int refuse(int... asked) {
        for (int s : asked) {
            if (bad(s)) {
                return BAD;
            }
        }
        for (int s : asked) {
            if (rows[s] == null) {
                return find(1);
            }
        }
        for (int s : asked) {
            if (!isForm(s)) {
                return NOT;
            }
        }
        return 0;
    }

    private int refuseNought(int... asked) {
        int no = refuse(asked);
        for (int i = 0; i < asked.length && no == 0; i++) {
            no = java.util.Arrays.stream(form(asked[i])).allMatch(a -> a == 0) ? NOT : 0;
        }
        return no;
    }

    private int refuseLeads(int s, int t, int b) {
        if (b < 1 || b > 2) {
            return BAD;
        }
        int no = refuse(s, t);
        return no != 0 ? no : form(s).length != form(t).length ? NOT : 0;
    }

    // ---- reckoning

    private static int kindOf(Object row) {
        return row instanceof byte[] ? 0 : row instanceof short[] ? 1 : 2;
    }

    static int mod(long v) {
        return (int) Math.floorMod(v, (long) P);
    }

    private static int inverse(long v) {
        return BigInteger.valueOf(v).modInverse(BIG_P).intValue();
    }

    private int[] items(int s) {
        int[] all = new int[Array.getLength(rows[s])];
        for (int i = 0; i < all.length; i++) {
            all[i] = mod(Array.getInt(rows[s], i));
        }
        return all;
    }

    private int[] form(int s) {
        return items(s);
    }

    private static long power(long base, int exponent) {
        long answer = 1;
        for (int i = 0; i < exponent; i++) {
            answer = mod(answer * mod(base));
        }
        return answer;
    }

    private static int at(int[] f, int x, int y) {
        long sum = 0;
        for (int i = 0; i < f.length; i++) {
            sum += f[i] * (long) mod(power(x, f.length - 1 - i) * power(y, i));
        }
        return mod(sum);
    }

    private static BigInteger choose(int n, int i) {
        BigInteger answer = BigInteger.ONE;
        for (int j = 0; j < i; j++) {
            answer = answer.multiply(BigInteger.valueOf(n - j)).divide(BigInteger.valueOf(j + 1));
        }
        return answer;
    }

    private static long falling(int n, int times) {
        long answer = 1;
        for (int j = 0; j < times; j++) {
            answer *= n - j;
        }
        return answer;
    }

    private static int[] product(int[] f, int[] g) {
        int[] h = new int[f.length + g.length - 1];
        for (int i = 0; i < f.length; i++) {
            for (int j = 0; j < g.length; j++) {
                h[i + j] = mod(h[i + j] + (long) f[i] * g[j]);
            }
        }
        return h;
    }

    private static int[] changed(int[] f, int byX, int byY) {
        int n = f.length - 1;
        int[] h = new int[n - byX - byY + 1];
        for (int j = byY; j <= n - byX; j++) {
            h[j - byY] = mod(mod(f[j] * falling(n - j, byX)) * falling(j, byY));
        }
        return h;
    }

    private static int[] mixed(int[] f, int a, int b, int c, int d) {
        int n = f.length - 1;
        int[] sum = new int[n + 1];
        for (int i = 0; i <= n; i++) {
            int[] part = {f[i]};
            for (int j = 0; j < n; j++) {
                part = product(part, j < n - i ? new int[] {mod(a), mod(b)} : new int[] {mod(c), mod(d)});
            }
            for (int j = 0; j <= n; j++) {
                sum[j] = mod(sum[j] + part[j]);
            }
        }
        return sum;
    }

    private static List<Integer> rootsOf(int[] f) {
        List<Integer> all = new ArrayList<>();
        for (int v = 0; v < P; v++) {
            if (at(f, 1, v) == 0) {
                all.add(v);
            }
        }
        if (at(f, 0, 1) == 0) {
            all.add(P);
        }
        return all;
    }

    private static int zerosBehind(int[] f) {
        int zeros = 0;
        while (zeros < f.length && f[f.length - 1 - zeros] == 0) {
            zeros++;
        }
        return zeros;
    }

    /** What both have together but for powers of x, by dividing from the highest power of y down. */
    private static int[] greatest(int[] f, int[] g) {
        int[] a = java.util.Arrays.copyOf(f, f.length - zerosBehind(f));
        int[] b = java.util.Arrays.copyOf(g, g.length - zerosBehind(g));
        while (b.length > 0) {
            int[] rest = a.clone();
            for (int top = rest.length - 1; top >= b.length - 1; top--) {
                long factor = rest[top] * (long) inverse(b[b.length - 1]);
                for (int i = 0; i < b.length; i++) {
                    int place = top - (b.length - 1) + i;
                    rest[place] = mod(rest[place] - mod(factor) * (long) b[i]);
                }
            }
            a = b;
            b = java.util.Arrays.copyOf(rest, rest.length - zerosBehind(rest));
        }
        return a;
    }

    /** Over whole numbers: each division goes off without a rest. */
    private static BigInteger determinant(BigInteger[][] table) {
        int size = table.length;
        BigInteger[][] t = new BigInteger[size][];
        for (int r = 0; r < size; r++) {
            t[r] = table[r].clone();
        }
        BigInteger before = BigInteger.ONE;
        int sign = 1;
        for (int k = 0; k < size - 1; k++) {
            int pivot = k;
            while (pivot < size && t[pivot][k].signum() == 0) {
                pivot++;
            }
            if (pivot == size) {
                return BigInteger.ZERO;
            }
            if (pivot != k) {
                BigInteger[] kept = t[k];
                t[k] = t[pivot];
                t[pivot] = kept;
                sign = -sign;
            }
            for (int i = k + 1; i < size; i++) {
                for (int j = k + 1; j < size; j++) {
                    t[i][j] = t[i][j].multiply(t[k][k]).subtract(t[i][k].multiply(t[k][j])).divide(before);
                }
            }
            before = t[k][k];
        }
        return size == 0 ? BigInteger.ONE : t[size - 1][size - 1].multiply(BigInteger.valueOf(sign));
    }

    private static int byMinors(BigInteger[][] table) {
        int rank = 0;
        for (int rowSet = 1; rowSet < 1 << table.length; rowSet++) {
            for (int placeSet = 1; placeSet < 1 << table[0].length; placeSet++) {
                int size = Integer.bitCount(rowSet);
                if (size == Integer.bitCount(placeSet) && size > rank
                    && determinant(minor(table, rowSet, placeSet)).mod(BIG_P).signum() != 0) {
                    rank = size;
                }
            }
        }
        return rank;
    }

    private static BigInteger[][] minor(BigInteger[][] table, int rowSet, int placeSet) {
        int size = Integer.bitCount(rowSet);
        BigInteger[][] small = new BigInteger[size][size];
        int row = 0;
        for (int i = 0; i < table.length; i++) {
            int place = 0;
            for (int j = 0; j < table[0].length && (rowSet >> i & 1) == 1; j++) {
                if ((placeSet >> j & 1) == 1) {
                    small[row][place++] = table[i][j];
                }
            }
            row += rowSet >> i & 1;
        }
        return small;
    }

    /** The only row c that makes the first numbers of f right. */
    private static int[] cramer(int[] f, int[] r) {
        int k = r.length;
        BigInteger[][] table = new BigInteger[k][k];
        for (int i = 0; i < k; i++) {
            for (int j = 0; j < k; j++) {
                table[i][j] = BigInteger.valueOf(power(r[j], i));
            }
        }
        int bottom = determinant(table).mod(BIG_P).intValue();
        int[] c = new int[k];
        for (int j = 0; j < k; j++) {
            BigInteger[][] other = new BigInteger[k][];
            for (int i = 0; i < k; i++) {
                other[i] = table[i].clone();
                other[i][j] = BigInteger.valueOf(mod(f[i] * (long) inverse(choose(f.length - 1, i).longValue())));
            }
            c[j] = mod(determinant(other).mod(BIG_P).longValue() * inverse(bottom));
        }
        return c;
    }

    private static int[] sumOfPowers(int[] r, int[] c, int k, int n) {
        int[] sum = new int[n + 1];
        for (int j = 0; j < k; j++) {
            int[] part = {c[j]};
            for (int i = 0; i < n; i++) {
                part = product(part, new int[] {1, r[j]});
            }
            for (int i = 0; i <= n; i++) {
                sum[i] = mod(sum[i] + part[i]);
            }
        }
        return sum;
    }

    private static List<Integer> leadsOf(int[] f, int[] g, int bound) {
        List<Integer> all = new ArrayList<>();
        for (int a = -bound; a <= bound; a++) {
            for (int b = -bound; b <= bound; b++) {
                for (int c = -bound; c <= bound; c++) {
                    for (int d = -bound; d <= bound; d++) {
                        if (a * d - b * c != 0 && java.util.Arrays.equals(mixed(f, a, b, c, d), g)) {
                            all.add(1000 * (a + 2) + 100 * (b + 2) + 10 * (c + 2) + d + 2);
                        }
                    }
                }
            }
        }
        return all;
    }

    /** How many sums of at most so many parts, none above most, there are. */
    private static int sums(int w, int parts, int most) {
        if (w == 0) {
            return 1;
        }
        int all = 0;
        for (int part = 1; part <= Math.min(w, most) && parts > 0; part++) {
            all += sums(w - part, parts - 1, part);
        }
        return all;
    }
}
