/** Forms of two letters on ten sheets, reckoned modulo a prime. */
public final class FormsOfTwo {
    public static final int NONE = -1, BAD = -2, NOT = -3;

    private static final int PRIME = 10007;
    private static final int SHEETS = 10;
    private static final int MOST_ITEMS = 12;
    private static final int MOST_DEGREE = 8;
    private static final int ROW = MOST_DEGREE + 1;

    private static final int BYTES = 0, SHORTS = 1, INTS = 2;

    private static final int FINE = 0;
    private static final int NULL = 1, INDEX = 2, CAST = 3, STORE = 4, SIZE = 5;
    private static final int BEFORE_FINDINGS = -10;
    private static final int NO_ITEM = -2147483648;

    private static final int TOGETHER = 0, LESS = 1, PRODUCT = 2, TIMES_FIRST = 3;
    private static final int BY_X = 0, BY_Y = 1;

    private static final int MOST_BOUND = 2;
    private static final int MOST_PARTS = 8;
    private static final int SUMS = MOST_DEGREE * MOST_PARTS / 2 + 1;

    private final Sheet[] sheets = new Sheet[SHEETS];
    private int latestFinding = 0;

    // Working rows are made once and used by every call, since all that a run makes is counted.
    private final int[] first = new int[ROW];
    private final int[] second = new int[ROW];
    private final int[] third = new int[ROW];
    private final int[] fourth = new int[ROW];
    private final int[] made = new int[ROW];
    private final Grid grid = new Grid();
    private final int[] ways = new int[(MOST_PARTS + 1) * SUMS];

    public FormsOfTwo() {
        for (int s = 0; s < SHEETS; s++) {
            sheets[s] = new Sheet();
        }
    }

    // ---- sheets

    public int sheet(int s, int kind, int n) {
        if (noSheet(s) || noKind(kind) || n > MOST_ITEMS) {
            return BAD;
        }
        if (n < 0) {
            return found(SIZE);
        }
        sheets[s].renew(kind, n);
        return n;
    }

    public int lose(int s) {
        int refusal = refuseSheets(s, s);
        if (refusal != FINE) {
            return refusal;
        }
        int had = sheets[s].size;
        sheets[s].forget();
        return had;
    }

    public int put(int s, int kind, int i, int v) {
        int refusal = refuseItem(s, kind, i);
        if (refusal != FINE) {
            return refusal;
        }
        sheets[s].store(i, v);
        return 1;
    }

    public int get(int s, int kind, int i) {
        return refuseItem(s, kind, i) == FINE ? sheets[s].items[i] : NO_ITEM;
    }

    public int copy(int s, int i, int t, int j, int n) {
        int refusal = refuseSheets(s, t);
        if (refusal != FINE) {
            return refusal;
        }
        Sheet from = sheets[s];
        Sheet to = sheets[t];
        if (from.kind != to.kind) {
            return found(STORE);
        }
        if (!from.holds(i, n) || !to.holds(j, n)) {
            return found(INDEX);
        }
        System.arraycopy(from.items, i, to.items, j, n);
        return 1;
    }

    // ---- forms

    public int term(int s, int i) {
        if (i < 0 || i > MOST_DEGREE) {
            return BAD;
        }
        int refusal = refuseForms(s, s);
        return refusal != FINE ? refusal : sheets[s].number(i);
    }

    public int degree(int s) {
        int refusal = refuseForms(s, s);
        return refusal != FINE ? refusal : sheets[s].top();
    }

    public int value(int s, int x, int y) {
        int refusal = refuseForms(s, s);
        if (refusal != FINE) {
            return refusal;
        }
        int n = load(s, first);
        return Rows.valueAt(first, n, Numbers.reduced(x), Numbers.reduced(y));
    }

    public int join(int s, int t, int u, int what) {
        if (noSheet(u) || what < TOGETHER || what > TIMES_FIRST) {
            return BAD;
        }
        int refusal = refuseForms(s, t);
        if (refusal != FINE) {
            return refusal;
        }
        int m = load(s, first);
        int n = load(t, second);
        if (!canJoin(m, n, what)) {
            return NOT;
        }
        makeJoined(m, n, what);
        return keepForm(u, what == PRODUCT ? m + n : m);
    }

    public int mix(int s, int a, int b, int c, int d, int u) {
        if (noSheet(u)) {
            return BAD;
        }
        int refusal = refuseForms(s, s);
        if (refusal != FINE) {
            return refusal;
        }
        int p = Numbers.reduced(a);
        int q = Numbers.reduced(b);
        int v = Numbers.reduced(c);
        int w = Numbers.reduced(d);
        int n = load(s, first);
        makeMixed(n, p, q, v, w);
        keepForm(u, n);
        return Numbers.reduced(p * w - q * v);
    }

    public int change(int s, int what, int u) {
        if (noSheet(u) || what < BY_X || what > BY_Y) {
            return BAD;
        }
        int refusal = refuseForms(s, s);
        if (refusal != FINE) {
            return refusal;
        }
        int n = load(s, first);
        if (n == 0) {
            return NOT;
        }
        int timesByY = what == BY_Y ? 1 : 0;
        Rows.changed(first, n, 1 - timesByY, timesByY, made);
        return keepForm(u, n - 1);
    }

    public int overlap(int s, int t, int k, int u) {
        if (noSheet(u) || k < 0 || k > MOST_DEGREE) {
            return BAD;
        }
        int refusal = refuseForms(s, t);
        if (refusal != FINE) {
            return refusal;
        }
        int m = load(s, first);
        int n = load(t, second);
        if (k > m || k > n || m + n - 2 * k > MOST_DEGREE) {
            return NOT;
        }
        makeOverlap(m, n, k);
        return keepForm(u, m + n - 2 * k);
    }

    public int alike(int s, int t) {
        int refusal = refuseForms(s, t);
        if (refusal != FINE) {
            return refusal;
        }
        int m = load(s, first);
        int n = load(t, second);
        return m == n ? Rows.ratio(first, second, n) : 0;
    }

    // ---- roots

    public int roots(int s) {
        int refusal = refuseRoots(s, s);
        return refusal != FINE ? refusal : findRoots(s);
    }

    public int root(int s, int i) {
        if (i < 0) {
            return BAD;
        }
        int refusal = refuseRoots(s, s);
        if (refusal != FINE) {
            return refusal;
        }
        return i < findRoots(s) ? third[i] : NONE;
    }

    public int common(int s, int t, int u) {
        if (noSheet(u)) {
            return BAD;
        }
        int refusal = refuseRoots(s, t);
        if (refusal != FINE) {
            return refusal;
        }
        int m = load(s, first);
        int n = load(t, second);
        return keepForm(u, makeCommon(m, n));
    }

    public int result(int s, int t) {
        int refusal = refuseForms(s, t);
        if (refusal != FINE) {
            return refusal;
        }
        int m = load(s, first);
        int n = load(t, second);
        if (m == 0 || n == 0) {
            return NOT;
        }
        grid.clear();
        grid.layStairs(first, m, 0, n);
        grid.layStairs(second, n, n, m);
        return grid.determinant(m + n);
    }

    // ---- powers

    public int powers(int s, int t, int k, int u) {
        if (noSheet(u) || k < 1 || k > ROW) {
            return BAD;
        }
        int refusal = refuseSheets(s, t);
        if (refusal != FINE) {
            return refusal;
        }
        if (!sheets[s].isForm() || k > sheets[s].size) {
            return NOT;
        }
        if (sheets[t].size < k) {
            return found(INDEX);
        }
        int n = load(s, first);
        if (!sheets[t].startsUnlike(k) || !makePowers(n, sheets[t], k)) {
            return NOT;
        }
        sheets[u].become(made, k);
        return k;
    }

    public int build(int s, int t, int k, int n, int u) {
        if (noSheet(u) || k < 0 || k > MOST_ITEMS || n < 0 || n > MOST_DEGREE) {
            return BAD;
        }
        int refusal = refuseSheets(s, t);
        if (refusal != FINE) {
            return refusal;
        }
        if (sheets[s].size < k || sheets[t].size < k) {
            return found(INDEX);
        }
        Rows.clear(made);
        for (int j = 0; j < k; j++) {
            Rows.addPower(made, n, sheets[s].number(j), sheets[t].number(j));
        }
        return keepForm(u, n);
    }

    public int rank(int s, int k) {
        if (k < 0) {
            return BAD;
        }
        int refusal = refuseForms(s, s);
        if (refusal != FINE) {
            return refusal;
        }
        int n = load(s, first);
        if (k > n) {
            return NOT;
        }
        Rows.divideByChoices(first, n);
        grid.clear();
        grid.laySquare(first, n, k);
        return grid.reduce(k + 1, n - k + 1, n - k + 1);
    }

    // ---- what stays

    public int leads(int s, int t, int b) {
        int refusal = refuseLeads(s, t, b);
        if (refusal != FINE) {
            return refusal;
        }
        int n = loadLeads(s, t);
        int tables = tablesWithin(b);
        int count = 0;
        for (int table = 0; table < tables; table++) {
            if (isLead(n, b, table)) {
                count++;
            }
        }
        return count;
    }

    public int lead(int s, int t, int b, int i) {
        if (i < 0) {
            return BAD;
        }
        int refusal = refuseLeads(s, t, b);
        if (refusal != FINE) {
            return refusal;
        }
        int n = loadLeads(s, t);
        int tables = tablesWithin(b);
        int count = 0;
        for (int table = 0; table < tables; table++) {
            if (isLead(n, b, table)) {
                if (count == i) {
                    return codeOf(b, table);
                }
                count++;
            }
        }
        return NONE;
    }

    public int staying(int n, int d, int e) {
        if (n < 1 || n > MOST_DEGREE || d < 0 || d > MOST_PARTS || e < 0 || e > n * d) {
            return BAD;
        }
        int twice = n * d - e;
        if (twice % 2 != 0) {
            return 0;
        }
        int sum = twice / 2;
        countWays(n, d, sum);
        int here = ways[d * SUMS + sum];
        return sum == 0 ? here : here - ways[d * SUMS + sum - 1];
    }

    public int count(int what) {
        switch (what) {
            case 0:
                return countSheets(false);
            case 1:
                return latestFinding;
            case 2:
                return countSheets(true);
            default:
                return BAD;
        }
    }

    public long digest() {
        long h = 17;
        h = 31 * h + countSheets(false);
        h = 31 * h + countSheets(true);
        for (int s = 0; s < SHEETS; s++) {
            if (sheets[s].isForm()) {
                h = 31 * h + s;
                h = sheets[s].addTo(h);
            }
        }
        return h;
    }

    // ---- refusals

    private static boolean noSheet(int s) {
        return s < 0 || s >= SHEETS;
    }

    private static boolean noKind(int kind) {
        return kind < BYTES || kind > INTS;
    }

    private int found(int finding) {
        latestFinding = finding;
        return BEFORE_FINDINGS - finding;
    }

    // A call that asks one sheet gives it twice to the tests below: the answers are the same.

    private int refuseSheets(int s, int t) {
        if (noSheet(s) || noSheet(t)) {
            return BAD;
        }
        return sheets[s].isLost() || sheets[t].isLost() ? found(NULL) : FINE;
    }

    private int refuseItem(int s, int kind, int i) {
        if (noKind(kind)) {
            return BAD;
        }
        int refusal = refuseSheets(s, s);
        if (refusal != FINE) {
            return refusal;
        }
        if (sheets[s].kind != kind) {
            return found(CAST);
        }
        return sheets[s].holds(i, 1) ? FINE : found(INDEX);
    }

    private int refuseForms(int s, int t) {
        int refusal = refuseSheets(s, t);
        if (refusal != FINE) {
            return refusal;
        }
        return sheets[s].isForm() && sheets[t].isForm() ? FINE : NOT;
    }

    private int refuseRoots(int s, int t) {
        int refusal = refuseForms(s, t);
        if (refusal != FINE) {
            return refusal;
        }
        return sheets[s].isNought() || sheets[t].isNought() ? NOT : FINE;
    }

    private int refuseLeads(int s, int t, int b) {
        if (b < 1 || b > MOST_BOUND) {
            return BAD;
        }
        int refusal = refuseForms(s, t);
        if (refusal != FINE) {
            return refusal;
        }
        return sheets[s].size == sheets[t].size ? FINE : NOT;
    }

    // ---- from sheets to working rows and back

    /** The form's degree; the row gets its numbers, and 0 beyond them. */
    private int load(int s, int[] row) {
        for (int i = 0; i < ROW; i++) {
            row[i] = sheets[s].number(i);
        }
        return sheets[s].top();
    }

    private int keepForm(int u, int degree) {
        sheets[u].become(made, degree + 1);
        return degree;
    }

    private int countSheets(boolean formsAlone) {
        int count = 0;
        for (int s = 0; s < SHEETS; s++) {
            if (formsAlone ? sheets[s].isForm() : !sheets[s].isLost()) {
                count++;
            }
        }
        return count;
    }

    // ---- working on rows: what they make stands in row made, if nothing else is said

    private static boolean canJoin(int m, int n, int what) {
        switch (what) {
            case TOGETHER:
            case LESS:
                return m == n;
            case PRODUCT:
                return m + n <= MOST_DEGREE;
            default:
                return true;
        }
    }

    private void makeJoined(int m, int n, int what) {
        Rows.clear(made);
        switch (what) {
            case TOGETHER:
                Rows.addTimes(made, first, 1);
                Rows.addTimes(made, second, 1);
                break;
            case LESS:
                Rows.addTimes(made, first, 1);
                Rows.addTimes(made, second, PRIME - 1);
                break;
            case PRODUCT:
                Rows.addProduct(made, first, m, second, n, 1);
                break;
            default:
                Rows.addTimes(made, first, second[0]);
                break;
        }
    }

    /** After step j, made holds the terms 0 to j, less the powers of the mixed x that are still to come. */
    private void makeMixed(int n, int a, int b, int c, int d) {
        Rows.clear(made);
        Rows.clear(second);
        made[0] = first[0];
        second[0] = 1;
        for (int j = 1; j <= n; j++) {
            Rows.timesLine(made, j - 1, a, b);
            Rows.timesLine(second, j - 1, c, d);
            Rows.addTimes(made, second, first[j]);
        }
    }

    private void makeOverlap(int m, int n, int k) {
        Rows.clear(made);
        for (int i = 0; i <= k; i++) {
            Rows.changed(first, m, k - i, i, third);
            Rows.changed(second, n, i, k - i, fourth);
            int choice = Numbers.choose(k, i);
            int factor = i % 2 == 0 ? choice : PRIME - choice;
            Rows.addProduct(made, third, m - k, fourth, n - k, factor);
        }
        int above = Numbers.factorial(m - k) * Numbers.factorial(n - k) % PRIME;
        int below = Numbers.factorial(m) * Numbers.factorial(n) % PRIME;
        Rows.multiply(made, above * Numbers.inverse(below) % PRIME);
    }

    /** How many roots there are; row third gets them. A form that is not nought has no more than its degree. */
    private int findRoots(int s) {
        int n = load(s, first);
        int many = 0;
        for (int place = 0; place <= PRIME && many < n; place++) {
            if (Rows.valueAtPlace(first, n, place) == 0) {
                third[many] = place;
                many++;
            }
        }
        return many;
    }

    /** The degree of what both have together; neither row is nought. */
    private int makeCommon(int m, int n) {
        int restOfFirst = Rows.strip(first, m);
        int restOfSecond = Rows.strip(second, n);
        // What was stripped are powers of y, which the steps below could not see.
        int shared = Math.min(m - restOfFirst, n - restOfSecond);
        // Each step takes one degree away at least, so that these steps are enough.
        for (int step = 0; step < 2 * ROW && restOfFirst >= 0 && restOfSecond >= 0; step++) {
            if (restOfFirst >= restOfSecond) {
                restOfFirst = Rows.lower(first, restOfFirst, second, restOfSecond);
            } else {
                restOfSecond = Rows.lower(second, restOfSecond, first, restOfFirst);
            }
        }
        int[] left = restOfFirst >= 0 ? first : second;
        int degree = Math.max(restOfFirst, restOfSecond);
        Rows.multiply(left, Numbers.inverse(left[0]));
        Rows.clear(made);
        for (int i = 0; i <= degree && shared + i < ROW; i++) {
            made[shared + i] = left[i];
        }
        return shared + degree;
    }

    /** Whether there is a row c; made gets it. The first k items of the roots are unlike. */
    private boolean makePowers(int n, Sheet roots, int k) {
        Rows.divideByChoices(first, n);
        grid.clear();
        grid.layPowers(roots, k, first, n);
        grid.reduce(n + 1, k + 1, k);
        for (int i = k; i <= n; i++) {
            if (grid.at(i, k) != 0) {
                return false;
            }
        }
        Rows.clear(made);
        for (int j = 0; j < k; j++) {
            made[j] = grid.at(j, k);
        }
        return true;
    }

    // ---- leads: tables are told by their number in the order, from 0 on

    private static int tablesWithin(int b) {
        int side = 2 * b + 1;
        return side * side * side * side;
    }

    /** The number at a place (0 to 3) of a table. */
    private static int entry(int b, int table, int place) {
        int side = 2 * b + 1;
        int rest = table;
        for (int later = place; later < 3; later++) {
            rest = rest / side;
        }
        return rest % side - b;
    }

    private static int codeOf(int b, int table) {
        int code = 0;
        for (int place = 0; place < 4; place++) {
            code = 10 * code + entry(b, table, place) + 2;
        }
        return code;
    }

    /** Row third gets the values of the second form that a lead must bring about. */
    private int loadLeads(int s, int t) {
        int n = load(s, first);
        load(t, second);
        for (int v = 0; v <= n; v++) {
            third[v] = Rows.valueAtPlace(second, n, v);
        }
        return n;
    }

    /** Forms of degree n that have the same values at n and 1 places are the same. */
    private boolean isLead(int n, int bound, int table) {
        int a = entry(bound, table, 0);
        int b = entry(bound, table, 1);
        int c = entry(bound, table, 2);
        int d = entry(bound, table, 3);
        if (a * d == b * c) {
            return false;
        }
        for (int v = 0; v <= n; v++) {
            int x = Numbers.reduced(a + b * v);
            int y = Numbers.reduced(c + d * v);
            if (Rows.valueAt(first, n, x, y) != third[v]) {
                return false;
            }
        }
        return true;
    }

    // ---- staying

    /** Row d of ways gets how many sums of d parts, each 0 to n, there are for 0 to most. */
    private void countWays(int n, int d, int most) {
        for (int parts = 0; parts <= d; parts++) {
            for (int sum = 0; sum <= most; sum++) {
                ways[parts * SUMS + sum] = sum == 0 ? 1 : 0;
            }
        }
        for (int part = 1; part <= n; part++) {
            for (int parts = 1; parts <= d; parts++) {
                for (int sum = part; sum <= most; sum++) {
                    ways[parts * SUMS + sum] += ways[(parts - 1) * SUMS + sum - part];
                }
            }
        }
    }

    /** A row of a kind, or lost. Its items always fit its kind. */
    private static final class Sheet {
        private static final int LOST = -1;

        final int[] items = new int[MOST_ITEMS];
        int kind = INTS;
        int size = LOST;

        boolean isLost() {
            return size == LOST;
        }

        boolean isForm() {
            return size >= 1 && size <= ROW;
        }

        boolean isNought() {
            for (int i = 0; i < size; i++) {
                if (number(i) != 0) {
                    return false;
                }
            }
            return true;
        }

        int top() {
            return size - 1;
        }

        /** Item i modulo the prime; 0 where there is none. */
        int number(int i) {
            return holds(i, 1) ? Numbers.reduced(items[i]) : 0;
        }

        /** Written so that no sum of wide numbers can wrap. */
        boolean holds(int from, int many) {
            return from >= 0 && many >= 0 && many <= size - from;
        }

        boolean startsUnlike(int many) {
            for (int i = 0; i < many; i++) {
                for (int j = 0; j < i; j++) {
                    if (number(i) == number(j)) {
                        return false;
                    }
                }
            }
            return true;
        }

        void forget() {
            size = LOST;
        }

        void renew(int newKind, int newSize) {
            kind = newKind;
            size = newSize;
            for (int i = 0; i < MOST_ITEMS; i++) {
                items[i] = 0;
            }
        }

        void store(int i, int v) {
            if (!holds(i, 1)) {
                return;
            }
            switch (kind) {
                case BYTES:
                    items[i] = (byte) v;
                    break;
                case SHORTS:
                    items[i] = (short) v;
                    break;
                default:
                    items[i] = v;
                    break;
            }
        }

        void become(int[] row, int many) {
            renew(INTS, many);
            for (int i = 0; i < many && i < row.length; i++) {
                store(i, row[i]);
            }
        }

        long addTo(long before) {
            long h = 31 * before + top();
            for (int i = 0; i < size; i++) {
                h = 31 * h + number(i);
            }
            return h;
        }
    }

    /** Numbers modulo the prime; the product of two of them, and the sum of two products, fit an int. */
    private static final class Numbers {
        static int reduced(int v) {
            return Math.floorMod(v, PRIME);
        }

        static int power(int base, int exponent) {
            int answer = 1;
            int square = base;
            for (int left = exponent; left > 0; left = left / 2) {
                if (left % 2 == 1) {
                    answer = answer * square % PRIME;
                }
                square = square * square % PRIME;
            }
            return answer;
        }

        /** By Fermat, so that nothing is divided; 0 for 0. */
        static int inverse(int v) {
            return power(v, PRIME - 2);
        }

        static int factorial(int n) {
            int answer = 1;
            for (int j = 2; j <= n; j++) {
                answer = answer * j % PRIME;
            }
            return answer;
        }

        static int choose(int n, int i) {
            int answer = 1;
            for (int j = 1; j <= i; j++) {
                answer = answer * (n - j + 1) / j;
            }
            return answer;
        }
    }

    /** Work on rows of nine numbers: those of a form, and 0 beyond its degree. */
    private static final class Rows {
        static void clear(int[] row) {
            for (int i = 0; i < row.length; i++) {
                row[i] = 0;
            }
        }

        static void multiply(int[] row, int factor) {
            for (int i = 0; i < row.length; i++) {
                row[i] = row[i] * factor % PRIME;
            }
        }

        static void addTimes(int[] row, int[] other, int factor) {
            for (int i = 0; i < row.length && i < other.length; i++) {
                row[i] = (row[i] + other[i] * factor) % PRIME;
            }
        }

        /** The degrees m and n are at most eight together. */
        static void addProduct(int[] row, int[] f, int m, int[] g, int n, int factor) {
            for (int i = 0; i <= m; i++) {
                int times = f[i] * factor % PRIME;
                for (int j = 0; j <= n && i + j < row.length; j++) {
                    row[i + j] = (row[i + j] + times * g[j]) % PRIME;
                }
            }
        }

        /** The row, of a degree below eight, becomes its product with a x and b y. */
        static void timesLine(int[] row, int degree, int a, int b) {
            for (int i = degree + 1; i > 0; i--) {
                row[i] = (a * row[i] + b * row[i - 1]) % PRIME;
            }
            row[0] = a * row[0] % PRIME;
        }

        /** Adds factor times (x and r y) to the n. */
        static void addPower(int[] row, int n, int r, int factor) {
            int power = factor;
            for (int i = 0; i <= n; i++) {
                row[i] = (row[i] + power * Numbers.choose(n, i)) % PRIME;
                power = power * r % PRIME;
            }
        }

        static void divideByChoices(int[] row, int n) {
            for (int i = 0; i <= n; i++) {
                row[i] = row[i] * Numbers.inverse(Numbers.choose(n, i)) % PRIME;
            }
        }

        static void changed(int[] f, int degree, int timesByX, int timesByY, int[] into) {
            for (int i = 0; i < into.length; i++) {
                into[i] = i <= degree ? f[i] : 0;
            }
            int left = degree;
            for (int time = 0; time < timesByX; time++) {
                changeByX(into, left);
                left--;
            }
            for (int time = 0; time < timesByY; time++) {
                changeByY(into, left);
                left--;
            }
        }

        private static void changeByX(int[] row, int degree) {
            for (int i = 0; i <= degree; i++) {
                row[i] = row[i] * (degree - i) % PRIME;
            }
        }

        private static void changeByY(int[] row, int degree) {
            for (int i = 1; i <= degree; i++) {
                row[i - 1] = row[i] * i % PRIME;
            }
            if (degree >= 0) {
                row[degree] = 0;
            }
        }

        static int valueAt(int[] row, int n, int x, int y) {
            int answer = row[0];
            int power = 1;
            for (int i = 1; i <= n; i++) {
                power = power * y % PRIME;
                answer = (answer * x + row[i] * power) % PRIME;
            }
            return answer;
        }

        /** The number that makes g of f; 1 where both are nought, 0 where there is none. */
        static int ratio(int[] f, int[] g, int n) {
            int factor = 1;
            for (int i = 0; i <= n; i++) {
                if (f[i] != 0) {
                    factor = g[i] * Numbers.inverse(f[i]) % PRIME;
                    break;
                }
            }
            for (int i = 0; i <= n; i++) {
                if (f[i] * factor % PRIME != g[i]) {
                    return 0;
                }
            }
            return factor;
        }

        /** The value at 1 : v, and at 0 : 1 where v is the prime. */
        static int valueAtPlace(int[] row, int n, int v) {
            if (v == PRIME) {
                return row[n];
            }
            int answer = row[n];
            for (int i = n - 1; i >= 0; i--) {
                answer = (answer * v + row[i]) % PRIME;
            }
            return answer;
        }

        /** Takes the zeros away before the first other number: the degree that is left, -1 for nought. */
        static int strip(int[] row, int degree) {
            int zeros = 0;
            while (zeros <= degree && row[zeros] == 0) {
                zeros++;
            }
            for (int i = 0; i < row.length; i++) {
                row[i] = i + zeros <= degree ? row[i + zeros] : 0;
            }
            return degree - zeros;
        }

        /** Takes a multiple of g away so that f's first number goes; n is at most m, both begin with no 0. */
        static int lower(int[] f, int m, int[] g, int n) {
            int factor = PRIME - f[0] * Numbers.inverse(g[0]) % PRIME;
            for (int i = 0; i <= n; i++) {
                f[i] = (f[i] + factor * g[i]) % PRIME;
            }
            return strip(f, m);
        }
    }

    /** Room for rows of numbers that are reduced: sixteen by sixteen, as two forms of degree eight need. */
    private static final class Grid {
        private static final int SIDE = 2 * MOST_DEGREE;

        private final int[] cells = new int[SIDE * SIDE];
        private int product = 1;

        int at(int row, int place) {
            return cells[row * SIDE + place];
        }

        private void set(int row, int place, int v) {
            cells[row * SIDE + place] = v;
        }

        void clear() {
            Rows.clear(cells);
        }

        /** Lays the form's numbers into rows from one on, each a place further than the row before. */
        void layStairs(int[] form, int degree, int from, int rows) {
            for (int r = 0; r < rows; r++) {
                for (int i = 0; i <= degree; i++) {
                    set(from + r, r + i, form[i]);
                }
            }
        }

        void laySquare(int[] divided, int n, int k) {
            for (int i = 0; i <= k; i++) {
                for (int j = 0; j <= n - k; j++) {
                    set(i, j, divided[i + j]);
                }
            }
        }

        /** Row i has the i-th powers of the roots and, at place k, the number that they are to make. */
        void layPowers(Sheet roots, int k, int[] divided, int n) {
            for (int j = 0; j < k; j++) {
                int power = 1;
                for (int i = 0; i <= n; i++) {
                    set(i, j, power);
                    power = power * roots.number(j) % PRIME;
                }
            }
            for (int i = 0; i <= n; i++) {
                set(i, k, divided[i]);
            }
        }

        int determinant(int side) {
            return reduce(side, side, side) == side ? product : 0;
        }

        /** Clears each of the first places, as far as it goes, in all rows but one: how many it cleared. */
        int reduce(int rows, int places, int placesToClear) {
            product = 1;
            int done = 0;
            for (int place = 0; place < placesToClear && done < rows; place++) {
                int chosen = rowWith(place, done, rows);
                if (chosen != NONE) {
                    bringUp(chosen, done, places);
                    divideRow(done, place, places);
                    clearPlace(place, done, rows, places);
                    done++;
                }
            }
            return done;
        }

        private int rowWith(int place, int from, int rows) {
            for (int row = from; row < rows; row++) {
                if (at(row, place) != 0) {
                    return row;
                }
            }
            return NONE;
        }

        private void bringUp(int chosen, int done, int places) {
            if (chosen == done) {
                return;
            }
            product = PRIME - product;
            for (int place = 0; place < places; place++) {
                int kept = at(done, place);
                set(done, place, at(chosen, place));
                set(chosen, place, kept);
            }
        }

        private void divideRow(int row, int pivot, int places) {
            int divisor = at(row, pivot);
            product = product * divisor % PRIME;
            int factor = Numbers.inverse(divisor);
            for (int place = 0; place < places; place++) {
                set(row, place, at(row, place) * factor % PRIME);
            }
        }

        private void clearPlace(int pivot, int done, int rows, int places) {
            for (int row = 0; row < rows; row++) {
                int factor = PRIME - at(row, pivot);
                if (row != done && factor != PRIME) {
                    for (int place = 0; place < places; place++) {
                        set(row, place, (at(row, place) + factor * at(done, place)) % PRIME);
                    }
                }
            }
        }
    }
}
