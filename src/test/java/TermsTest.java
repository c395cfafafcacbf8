/** What the document's terms say of bounds, sentence by sentence: at the bound, beyond it, and where numbers wrap. */
public final class TermsTest {
    private static final Check CHECK = new Check("terms");
    private static final int P = Reckon.P, LEAST = Reckon.LEAST, MOST = Reckon.MOST;
    private static final int NONE = -1, BAD = Board.BAD, NOT = Board.NOT;

    /** Ints and the numbers that they are modulo P. */
    private static final int[][] NUMBERS = {
        {0, 0}, {1, 1}, {10005, 10005}, {10006, 10006}, {10007, 0}, {10008, 1}, {20013, 10006}, {20014, 0}, {20015, 1},
        {-1, 10006}, {-10006, 1}, {-10007, 0}, {-10008, 10006}, {-20014, 0}, {-20015, 10006},
        {MOST - 1, 1460}, {MOST, 1461}, {LEAST, 8545}, {LEAST + 1, 8546}};

    public static void main(String[] args) {
        objectOfFiveHundredAndTwelveCalls();
        numbersOfItems();
        numbersOfPlacesAndTables();
        numbersOfPowers();
        sumsAndProductsWrap();
        highNumbersMixed();
        highNumbersOverlapped();
        highNumbersOfPowers();
        divisions();
        sheetsZeroToNine();
        rowsOfNoughtToTwelveItems();
        lowestBits();
        copiesWithinAFullRow();
        findings();
        formsOfOneToNineItems();
        newRowsOfInts();
        newRowsAreTheirOwn();
        nought();
        bottoms();
        degreesOfOverlaps();
        overlapsOfPowers();
        places();
        rootsOfEveryCount();
        greatestCommon();
        firstNumberOfCommon();
        commonOfLines();
        resultsOfLowestAndHighest();
        resultsOfLines();
        sumsOfPowers();
        powersUnlikeModuloP();
        squares();
        boundsOfLeads();
        leadsOfBothLetters();
        orderOfLeads();
        waysOfTheLowestAndHighest();
        waysOfOddOnes();
        digests();
        CHECK.end();
    }

    private static void due(String what, long got, long want) {
        CHECK.due(what, got, want);
    }

    private static FormsOfTwo with(int[]... forms) {
        return Board.with(forms);
    }

    private static int[] of(int... items) {
        return items;
    }

    private static void shows(String what, FormsOfTwo x, int s, int... items) {
        CHECK.shows(what, x, s, 2, items);
    }

    /** The product of y less v x for so many v, from one on. */
    private static int[] lines(int from, int many) {
        int[] items = {1};
        for (int v = from; v < from + many; v++) {
            int[] more = new int[items.length + 1];
            for (int i = 0; i < items.length; i++) {
                more[i] = Reckon.number(more[i] - (long) v * items[i]);
                more[i + 1] = items[i];
            }
            items = more;
        }
        return items;
    }

    private static int choose(int n, int i) {
        return i == 0 || i == n ? 1 : choose(n - 1, i - 1) + choose(n - 1, i);
    }

    /** A form of degree n with 1 at one place. */
    private static int[] single(int n, int place) {
        int[] items = new int[n + 1];
        items[place] = 1;
        return items;
    }

    // ---- "An object is used for at most 512 calls"

    private static void objectOfFiveHundredAndTwelveCalls() {
        FormsOfTwo x = new FormsOfTwo();
        x.sheet(0, 2, 9);
        for (int call = 2; call <= 509; call++) {
            due("call " + call, x.put(0, 2, call % 9, call), 1);
        }
        due("call 510", x.term(0, 509 % 9), 509);
        due("call 511", x.sheet(0, 0, -1), Board.SIZE);
        due("call 512", x.count(1), 5);
    }

    // ---- "NUMBERS are 0 .. 10006, reckoned modulo 10007"

    private static void numbersOfItems() {
        for (int[] v : NUMBERS) {
            FormsOfTwo x = with(of(v[0], 1, v[0]));
            due("item 0 of " + v[0], x.term(0, 0), v[1]);
            due("item 2 of " + v[0], x.term(0, 2), v[1]);
            due("value with " + v[0], x.value(0, 1, 0), v[1]);
            due("the item stays " + v[0], x.get(0, 2, 0), v[0]);
            long h = 17;
            for (int part : of(1, 1, 0, 2, v[1], 1, v[1])) {
                h = 31 * h + part;
            }
            due("digest with " + v[0], x.digest(), h);
            x.join(0, 0, 1, 3);
            due("a form that is made has numbers, with " + v[0], x.get(1, 2, 1), v[1]);
        }
        FormsOfTwo y = new FormsOfTwo();
        Board.layKind(y, 0, 0, -1, -128, 127, 200);
        Board.layKind(y, 1, 1, -1, -32768, 32767, 40000);
        for (int i = 0; i < 4; i++) {
            due("byte " + i, y.term(0, i), of(10006, 9879, 127, 9951)[i]);
            due("short " + i, y.term(1, i), of(10006, 7260, 2746, 4485)[i]);
        }
    }

    private static void numbersOfPlacesAndTables() {
        for (int[] v : NUMBERS) {
            FormsOfTwo x = with(of(1, 0), of(0, 1), of(0, 1, 0));
            due("x at " + v[0], x.value(0, v[0], 5), v[1]);
            due("y at " + v[0], x.value(1, 5, v[0]), v[1]);
            due("x y at " + v[0], x.value(2, v[0], v[0]), Reckon.times(v[1], v[1]));
            due("bottom with a " + v[0], x.mix(0, v[0], 3, 0, 1, 3), v[1]);
            shows("a " + v[0], x, 3, v[1], 3);
            due("bottom with b " + v[0], x.mix(0, 3, v[0], 1, 0, 3), Reckon.number(-v[1]));
            shows("b " + v[0], x, 3, 3, v[1]);
            due("bottom with c " + v[0], x.mix(1, 0, 1, v[0], 3, 3), Reckon.number(-v[1]));
            shows("c " + v[0], x, 3, v[1], 3);
            due("bottom with d " + v[0], x.mix(1, 1, 0, 3, v[0], 3), v[1]);
            shows("d " + v[0], x, 3, 3, v[1]);
        }
    }

    private static void numbersOfPowers() {
        for (int[] v : NUMBERS) {
            FormsOfTwo x = with(of(v[0]), of(3), of(5, Reckon.times(5, v[1])));
            due("build with r " + v[0], x.build(0, 1, 1, 1, 3), 1);
            shows("build with r " + v[0], x, 3, 3, Reckon.times(3, v[1]));
            due("build with c " + v[0], x.build(1, 0, 1, 1, 3), 1);
            shows("build with c " + v[0], x, 3, v[1], Reckon.times(3, v[1]));
            due("powers with r " + v[0], x.powers(2, 0, 1, 3), 1);
            shows("powers with r " + v[0], x, 3, 5);
        }
    }

    private static void sumsAndProductsWrap() {
        int[][] pairs = {{0, 0}, {1, 10006}, {10006, 1}, {10006, 10006}, {0, 1}, {0, 10006}, {5003, 5004}, {5003, 5003}};
        for (int[] pair : pairs) {
            int a = pair[0], b = pair[1];
            FormsOfTwo x = with(of(a), of(b));
            due("together", x.join(0, 1, 2, 0), 0);
            shows(a + " and " + b, x, 2, (a + b) % P);
            due("less", x.join(0, 1, 2, 1), 0);
            shows(a + " less " + b, x, 2, (a - b + P) % P);
            for (int what = 2; what <= 3; what++) {
                due("product", x.join(0, 1, 2, what), 0);
                shows(a + " times " + b, x, 2, Reckon.times(a, b));
            }
        }
    }

    /** Numbers just below P, whose products would wrap an int if they were not taken modulo P at every step. */
    private static void highNumbersMixed() {
        for (int n = 0; n <= 8; n++) {
            FormsOfTwo x = with(single(n, 0), single(n, n));
            int[] power = new int[n + 1];
            for (int i = 0; i <= n; i++) {
                power[i] = Reckon.number((n % 2 == 0 ? 1 : -1) * choose(n, i) * (1 << i));
            }
            due("bottom", x.mix(0, -1, -2, 3, -4, 2), 10);
            shows("x becomes -x less 2 y in x^" + n, x, 2, power);
            due("bottom", x.mix(1, -3, 4, -1, -2, 2), 10);
            shows("y becomes -x less 2 y in y^" + n, x, 2, power);
            int at = 0;
            for (int i = 0; i <= n; i++) {
                at += power[i];
            }
            due("its value at 1, 1", x.value(2, 1, 1), at % P);
            due("its value at -1, -1", x.value(2, -1, -1), n % 2 == 0 ? at % P : Reckon.number(-at));
        }
    }

    /** OVERLAP n of two of degree n: the sum of a i times b (n - i) by (n over i), signs changing. */
    private static void highNumbersOverlapped() {
        for (int n = 0; n <= 8; n++) {
            int[] f = new int[n + 1];
            int[] g = new int[n + 1];
            int sum = 0;
            for (int i = 0; i <= n; i++) {
                f[i] = -1 - i;
                g[i] = -7 - 3 * i;
            }
            for (int i = 0; i <= n; i++) {
                int term = Reckon.part(Reckon.times(f[i], g[n - i]), choose(n, i));
                sum = Reckon.number(i % 2 == 0 ? sum + term : sum - term);
            }
            FormsOfTwo x = with(f, g);
            due("overlap " + n, x.overlap(0, 1, n, 2), 0);
            shows("overlap " + n, x, 2, sum);
        }
    }

    private static void highNumbersOfPowers() {
        int[] r = {0, 10006, 10005, 5004, 9999, 77, 10000, 8545, 1};
        int[] c = {10006, 10004, 9990, 5003, 10003, 10006, 9000, 8000, 10005};
        for (int n = 0; n <= 8; n++) {
            for (int many = 1; many <= n + 1; many++) {
                FormsOfTwo x = with(r, c);
                due("build", x.build(0, 1, many, n, 2), n);
                for (int k = 0; k <= n; k++) {
                    due("rank " + k + " of " + many + " powers of degree " + n, x.rank(2, k),
                        Math.min(many, Math.min(k, n - k) + 1));
                }
                due("powers", x.powers(2, 0, many, 3), many);
                shows(many + " powers of degree " + n, x, 3, java.util.Arrays.copyOf(c, many));
            }
        }
    }

    /** "TO DIVIDE is times the one number whose product with it is 1; not by 0" */
    private static void divisions() {
        for (int v : of(1, 2, 3, 5003, 5004, 10005, 10006)) {
            FormsOfTwo x = with(of(v), of(1), of(0, v), of(0, 1));
            int part = x.alike(0, 1);
            CHECK.holds("1 by " + v + " is a number, not 0", part >= 1 && part <= 10006);
            due("its product with " + v, Reckon.times(v, part), 1);
            due("after a 0", x.alike(2, 3), part);
            due("back", x.alike(1, 0), v);
        }
        // the overlap's division: f's and g's second changes are whole, their halves and quarters are not
        FormsOfTwo y = with(of(0, 1, 0), of(1, 0, 1));
        due("overlap 2 of x y with itself", y.overlap(0, 0, 2, 2), 0);
        shows("overlap 2 of x y with itself is -1 by 2", y, 2, 5003);
        due("overlap 1 of x y and x^2 and y^2", y.overlap(0, 1, 1, 2), 2);
        shows("its numbers are by 2", y, 2, 5003, 0, 5004);
    }

    // ---- "SHEETS 0 .. 9 are LOST (at first) or a row of a KIND, of 0 to 12 items (0 at first)"

    private static void sheetsZeroToNine() {
        FormsOfTwo x = new FormsOfTwo();
        for (int s = 0; s <= 9; s++) {
            due("lost at first", x.degree(s), Board.NULL);
        }
        for (int s = 0; s <= 9; s++) {
            due("sheet " + s, x.sheet(s, 2, 1), 1);
            due("so many are there", x.count(0), s + 1);
            x.put(s, 2, 0, 100 + s);
        }
        due("sheet -1", x.sheet(-1, 2, 1), BAD);
        due("sheet 10", x.sheet(10, 2, 1), BAD);
        for (int s = 0; s <= 9; s++) {
            due("each has its own row", x.get(s, 2, 0), 100 + s);
        }
        for (int s = 0; s <= 9; s++) {
            due("lose", x.lose(s), 1);
            due("so many are left", x.count(0), 9 - s);
        }
    }

    private static void rowsOfNoughtToTwelveItems() {
        for (int kind = 0; kind <= 2; kind++) {
            FormsOfTwo x = new FormsOfTwo();
            due("an empty row", x.sheet(0, kind, 0), 0);
            due("it has no first item", x.put(0, kind, 0, 1), Board.INDEX);
            due("it is not LOST", x.count(0), 1);
            due("it had none", x.lose(0), 0);
            due("a full row", x.sheet(0, kind, 12), 12);
            for (int i = 0; i < 12; i++) {
                due("0 at first", x.get(0, kind, i), 0);
                due("item " + i, x.put(0, kind, i, i + 1), 1);
            }
            due("it has no thirteenth", x.put(0, kind, 12, 1), Board.INDEX);
            due("one more is too many", x.sheet(0, kind, 13), BAD);
            due("one less than none", x.sheet(0, kind, -1), Board.SIZE);
            CHECK.shows("the full row stands", x, 0, kind, 1, 2, 3, 4, 5, 6, 7, 8, 9, 10, 11, 12);
            due("a new full row", x.sheet(0, kind, 12), 12);
            CHECK.shows("a new row is 0 at first", x, 0, kind, new int[12]);
            Board.layKind(x, 0, kind, 1, 2, 3);
            due("a shorter row", x.sheet(0, kind, 1), 1);
            CHECK.shows("a shorter row", x, 0, kind, 0);
            due("a row after a LOST one", x.lose(0), 1);
            x.sheet(0, kind, 3);
            CHECK.shows("a row after a LOST one", x, 0, kind, new int[3]);
        }
    }

    /** "becomes v (the lowest bits that it has)" */
    private static void lowestBits() {
        int[][] told = {
            // v, as a byte, as a short
            {127, 127, 127}, {128, -128, 128}, {255, -1, 255}, {256, 0, 256}, {-128, -128, -128}, {-129, 127, -129},
            {-256, 0, -256}, {32767, -1, 32767}, {32768, 0, -32768}, {65535, -1, -1}, {65536, 0, 0}, {65537, 1, 1},
            {-32768, 0, -32768}, {-32769, -1, 32767}, {-65536, 0, 0}, {MOST, -1, -1}, {LEAST, 0, 0}, {LEAST + 1, 1, 1}};
        FormsOfTwo x = new FormsOfTwo();
        for (int kind = 0; kind <= 2; kind++) {
            x.sheet(kind, kind, 3);
        }
        for (int[] row : told) {
            for (int kind = 0; kind <= 2; kind++) {
                due("put " + row[0], x.put(kind, kind, 1, row[0]), 1);
                due(row[0] + " as of kind " + kind, x.get(kind, kind, 1), kind == 2 ? row[0] : row[1 + kind]);
            }
        }
        for (int kind = 0; kind <= 2; kind++) {
            due("the item before", x.get(kind, kind, 0), 0);
            due("the item behind", x.get(kind, kind, 2), 0);
        }
    }

    /** "come to SHEET t (perhaps s, as they were)" */
    private static void copiesWithinAFullRow() {
        for (int kind = 0; kind <= 2; kind++) {
            FormsOfTwo x = new FormsOfTwo();
            Board.layKind(x, 0, kind, 1, 2, 3, 4, 5, 6, 7, 8, 9, 10, 11, 12);
            due("onwards", x.copy(0, 0, 0, 1, 11), 1);
            CHECK.shows("onwards", x, 0, kind, 1, 1, 2, 3, 4, 5, 6, 7, 8, 9, 10, 11);
            due("back", x.copy(0, 1, 0, 0, 11), 1);
            CHECK.shows("back", x, 0, kind, 1, 2, 3, 4, 5, 6, 7, 8, 9, 10, 11, 11);
            due("all of them", x.copy(0, 0, 0, 0, 12), 1);
            due("none of them", x.copy(0, 12, 0, 12, 0), 1);
            due("the first to the last place", x.copy(0, 0, 0, 11, 1), 1);
            CHECK.shows("the first to the last place", x, 0, kind, 1, 2, 3, 4, 5, 6, 7, 8, 9, 10, 11, 1);
        }
    }

    // ---- "FINDINGS (answers -10 less the number; they change nothing but count() 1)"

    private static void findings() {
        FormsOfTwo x = with(of(1, 2), of(3));
        x.sheet(2, 0, 2);
        due("before any", x.count(1), 0);
        due("BAD", x.degree(10), BAD);
        due("NOT", x.result(0, 1), NOT);
        due("get's BAD", x.get(10, 0, 0), LEAST);
        due("none of them is a finding", x.count(1), 0);
        due("SIZE", x.sheet(0, 2, -1), -15);
        due("SIZE is 5", x.count(1), 5);
        due("STORE", x.copy(0, 0, 2, 0, 1), -14);
        due("STORE is 4", x.count(1), 4);
        due("CAST", x.put(0, 1, 0, 1), -13);
        due("CAST is 3", x.count(1), 3);
        due("INDEX", x.put(0, 2, 2, 1), -12);
        due("INDEX is 2", x.count(1), 2);
        due("NULL", x.lose(9), -11);
        due("NULL is 1", x.count(1), 1);
        for (int finding : of(3, 2, 1)) {
            due("get", x.get(finding == 1 ? 9 : 0, finding == 3 ? 1 : 2, 2), LEAST);
            due("count() 1 tells", x.count(1), finding);
        }
        x.degree(10);
        x.result(0, 1);
        x.put(0, 2, 0, 1);
        x.join(0, 0, 5, 0);
        x.lose(2);
        due("the latest stays", x.count(1), 1);
        due("it is the object's own", new FormsOfTwo().count(1), 0);
    }

    // ---- "A SHEET of 1 to 9 items is a FORM"

    private static void formsOfOneToNineItems() {
        for (int kind = 0; kind <= 2; kind++) {
            FormsOfTwo x = new FormsOfTwo();
            for (int n = 0; n <= 12; n++) {
                boolean form = n >= 1 && n <= 9;
                x.sheet(4, kind, n);
                if (n > 0) {
                    x.put(4, kind, n - 1, 1);
                }
                String told = n + " items of kind " + kind;
                due(told + ": degree", x.degree(4), form ? n - 1 : NOT);
                due(told + ": count(2)", x.count(2), form ? 1 : 0);
                due(told + ": count(0)", x.count(0), 1);
                due(told + ": value", x.value(4, 0, 1), form ? 1 : NOT);
                due(told + ": term 8", x.term(4, 8), !form ? NOT : n == 9 ? 1 : 0);
                due(told + ": rank", x.rank(4, 0), form ? 1 : NOT);
                due(told + ": alike", x.alike(4, 4), form ? 1 : NOT);
            }
        }
    }

    // ---- "A SHEET that becomes a FORM becomes a new row of KIND 2"

    private static final String[] MAKING = {"join", "join", "join", "join", "mix", "change", "change", "overlap",
        "common", "powers", "build"};

    /** What makes sheet u of sheets 1 and 2. */
    private static int[] making(int call, int u) {
        int[][] told = {{1, 2, u, 0}, {1, 2, u, 1}, {1, 2, u, 2}, {1, 2, u, 3}, {1, 1, 1, 0, 1, u}, {1, 0, u}, {1, 1, u},
            {1, 2, 1, u}, {1, 2, u}, {1, 2, 3, u}, {1, 2, 2, 2, u}};
        return told[call];
    }

    /** What sheet u then is, sheet 1 being 1 3 2 and sheet 2 being 1 4 3. */
    private static final int[][] MADE = {
        {2, 7, 5}, {0, 10006, 10006}, {1, 7, 17, 17, 6}, {1, 3, 2}, {1, 5, 6}, {2, 3}, {3, 4},
        // (f_x g_y - f_y g_x) by 4: 2x + 3y, 4x + 6y; 3x + 4y, 2x + 4y: 2 x^2 and 4 x y and 2 y^2, by 4
        {5004, 1, 5004}, {1, 1},
        // solved below
        {}, {5, 26, 37}};

    private static void newRowsOfInts() {
        for (int call = 0; call < MAKING.length; call++) {
            for (int before = -1; before <= 2; before++) {
                for (int u : of(1, 2, 7)) {
                    FormsOfTwo x = with(of(9), of(1, 3, 2), of(1, 4, 3));
                    if (u == 7 && before >= 0) {
                        Board.layKind(x, 7, before, 9, 9, 9, 9, 9, 9, 9, 9, 9, 9, 9, 9);
                    }
                    String told = Board.told(MAKING[call], making(call, u)) + " where kind " + before + " was";
                    int[] made = MAKING[call].equals("powers") ? solved() : MADE[call];
                    int answer = MAKING[call].equals("mix") ? 1 : MAKING[call].equals("powers") ? 3 : made.length - 1;
                    due(told, Board.answer(x, MAKING[call], making(call, u)), answer);
                    shows(told, x, u, made);
                }
            }
        }
    }

    /** c for r 1, 4, 3 and x^2, 3 x y, 2 y^2: the sums of c, c r and c r^2 are 1, 3 by 2, and 2. */
    private static int[] solved() {
        int half = Reckon.part(3, 2);
        int[] r = {1, 4, 3};
        int[] c = new int[3];
        for (int j = 0; j < 3; j++) {
            int p = r[(j + 1) % 3], q = r[(j + 2) % 3];
            c[j] = Reckon.part(2 - Reckon.times(p + q, half) + p * q, (r[j] - p) * (r[j] - q));
        }
        return c;
    }

    private static void newRowsAreTheirOwn() {
        for (int call = 0; call < MAKING.length; call++) {
            FormsOfTwo x = with(of(9), of(1, 3, 2), of(1, 4, 3));
            Board.answer(x, MAKING[call], making(call, 6));
            Board.answer(x, MAKING[call], making(call, 7));
            int first = x.get(7, 2, 0);
            due("it holds any int", x.put(6, 2, 0, MOST), 1);
            due("it holds any int", x.get(6, 2, 0), MOST);
            due("another row that was made stays", x.get(7, 2, 0), first);
            shows("sheet 1 stays", x, 1, 1, 3, 2);
            shows("sheet 2 stays", x, 2, 1, 4, 3);
            due("it may be LOST", x.lose(6) > 0 ? 1 : 0, 1);
        }
    }

    // ---- "NOUGHT is a FORM whose numbers are all 0 (of its DEGREE)"

    private static void nought() {
        for (int n = 0; n <= 8; n++) {
            int[] zeros = new int[n + 1];
            int[] wraps = new int[n + 1];
            java.util.Arrays.fill(wraps, -20014);
            for (int[] items : new int[][] {zeros, wraps}) {
                FormsOfTwo x = with(items, of(1), zeros);
                String told = "nought of degree " + n + " (" + items[0] + ")";
                due(told + ": degree", x.degree(0), n);
                due(told + ": roots", x.roots(0), NOT);
                due(told + ": root", x.root(0, 0), NOT);
                due(told + ": common", x.common(0, 1, 3), NOT);
                due(told + ": common", x.common(1, 0, 3), NOT);
                due(told + ": alike", x.alike(0, 2), 1);
                due(told + ": alike", x.alike(2, 0), 1);
                due(told + ": rank", x.rank(0, n / 2), 0);
                due(told + ": count(2)", x.count(2), 3);
            }
            for (int place = 0; place <= n; place++) {
                FormsOfTwo y = with(single(n, place), zeros);
                String told = "1 at " + place + " of degree " + n;
                due(told + ": roots", y.roots(0), (place > 0 ? 1 : 0) + (place < n ? 1 : 0));
                due(told + ": common", y.common(0, 0, 3), n);
                due(told + ": alike nought", y.alike(0, 1), 0);
                due(told + ": alike nought, back", y.alike(1, 0), 0);
            }
        }
        FormsOfTwo z = with(of(0, 0), of(0, 0, 0), of(0));
        due("of unlike degrees they are not of one DEGREE", z.alike(0, 1), 0);
        due("of unlike degrees they are not of one DEGREE", z.alike(1, 2), 0);
    }

    // ---- "Its BOTTOM is a d less b c"

    private static void bottoms() {
        FormsOfTwo x = with(of(1, 2, 3));
        due("0", x.mix(0, 0, 0, 0, 0, 1), 0);
        shows("all 0", x, 1, 0, 0, 0);
        due("P is 0", x.mix(0, P, -P, P, 2 * P, 1), 0);
        shows("P is 0", x, 1, 0, 0, 0);
        due("1", x.mix(0, 1, 0, 0, 1, 1), 1);
        due("below 0", x.mix(0, 0, 1, 1, 0, 1), 10006);
        due("10006 times 10006", x.mix(0, -1, 0, 0, -1, 1), 1);
        due("0 less 10006 times 10006", x.mix(0, 0, -1, -1, 0, 1), 10006);
        due("10006 less 10006 times 10006", x.mix(0, -1, 1, -1, 1, 1), 0);
        due("the highest less nought", x.mix(0, 10006, 0, 0, 1, 1), 10006);
        due("wide ones", x.mix(0, MOST, LEAST, MOST, LEAST, 1), 0);
        due("wide ones", x.mix(0, MOST, LEAST, LEAST, MOST, 1),
            Reckon.number(Reckon.times(1461, 1461) - Reckon.times(8545, 8545)));
    }

    // ---- "THE OVERLAP k (0 to 8), k at most m and n, m and n less 2 k at most 8"

    private static void degreesOfOverlaps() {
        for (int m = 0; m <= 8; m++) {
            for (int n = 0; n <= 8; n++) {
                FormsOfTwo x = with(single(m, 0), single(n, n));
                due("k -1", x.overlap(0, 1, -1, 2), BAD);
                due("k 9", x.overlap(0, 1, 9, 2), BAD);
                for (int k = 0; k <= 8; k++) {
                    int degree = m + n - 2 * k;
                    due("overlap " + k + " of degrees " + m + ", " + n, x.overlap(0, 1, k, 2),
                        k <= m && k <= n && degree <= 8 ? degree : NOT);
                }
            }
        }
    }

    /** "OVERLAP 1 of x to the m and y to the n is x to the m - 1 y to the n - 1", and so on for k; back, signs change. */
    private static void overlapsOfPowers() {
        for (int m = 0; m <= 8; m++) {
            for (int n = 0; n <= 8; n++) {
                for (int k = 0; k <= Math.min(m, n); k++) {
                    if (m + n - 2 * k <= 8) {
                        FormsOfTwo x = with(single(m, 0), single(n, n));
                        x.overlap(0, 1, k, 2);
                        shows("overlap " + k + " of x^" + m + " and y^" + n, x, 2, single(m + n - 2 * k, n - k));
                        x.overlap(1, 0, k, 2);
                        int[] back = single(m + n - 2 * k, n - k);
                        back[n - k] = k % 2 == 0 ? 1 : 10006;
                        shows("overlap " + k + " of y^" + n + " and x^" + m, x, 2, back);
                    }
                }
            }
        }
    }

    // ---- "PLACES x : y are 1 : v (v a number), and 0 : 1 .. ROOTS, in order of v, 0 : 1 the last"

    private static void places() {
        FormsOfTwo x = with(of(0, 1), of(1, 1), of(1, 0), of(10005, 1));
        due("y is 0 at 1 : 0", x.root(0, 0), 0);
        due("x and y is 0 at 1 : 10006", x.root(1, 0), 10006);
        due("x is 0 at 0 : 1", x.root(2, 0), P);
        due("y less 2 x is 0 at 1 : 2", x.root(3, 0), 2);
        for (int s = 0; s <= 3; s++) {
            due("one root", x.roots(s), 1);
            due("no second", x.root(s, 1), NONE);
        }
        x.join(2, 1, 4, 2);
        x.join(4, 0, 4, 2);
        x.join(4, 3, 4, 2);
        due("all of them", x.roots(4), 4);
        for (int i = 0; i < 4; i++) {
            due("in order", x.root(4, i), of(0, 2, 10006, P)[i]);
        }
        due("none behind", x.root(4, 4), NONE);
        due("none far behind", x.root(4, MOST), NONE);
        due("none before", x.root(4, -1), BAD);
        due("none far before", x.root(4, LEAST), BAD);
    }

    /** From none to eight; a root that is there more than once counts once. */
    private static void rootsOfEveryCount() {
        FormsOfTwo x = with(of(1));
        due("degree 0 has none", x.roots(0), 0);
        due("degree 0 has none", x.root(0, 0), NONE);
        for (int v = 1; v <= 8; v++) {
            Board.lay(x, 1, -v, 1);
            x.join(0, 1, 0, 2);
            due("so many roots", x.roots(0), v);
            due("the last", x.root(0, v - 1), v);
            due("none behind", x.root(0, v), NONE);
            x.mix(1, 1, 0, 0, 1, 2);
            for (int times = 1; times < v; times++) {
                x.join(2, 1, 2, 2);
            }
            due("one root, so many times", x.roots(2), 1);
            due("one root, so many times", x.root(2, 0), v);
            due("one root, so many times", x.root(2, 1), NONE);
        }
        // P is 3 modulo 4, so that the sum of two squares is never 0
        FormsOfTwo y = with(of(1, 0, 1), of(1, 0, 2, 0, 1), of(1, 0, 4, 0, 6, 0, 4, 0, 1));
        for (int s = 0; s <= 2; s++) {
            due("no roots at all", y.roots(s), 0);
            due("no roots at all", y.root(s, 0), NONE);
        }
    }

    // ---- "COMMON .. the FORM of greatest DEGREE that both are multiples of, its first number that is not 0 being 1"

    private static void greatestCommon() {
        for (int m = 0; m <= 8; m++) {
            for (int n = 0; n <= 8; n++) {
                int least = Math.min(m, n);
                FormsOfTwo x = with(single(m, 0), single(n, 0), single(m, m), single(n, n));
                due("x^" + m + " and x^" + n, x.common(0, 1, 4), least);
                shows("x^" + m + " and x^" + n, x, 4, single(least, 0));
                due("y^" + m + " and y^" + n, x.common(2, 3, 4), least);
                shows("y^" + m + " and y^" + n, x, 4, single(least, least));
                due("x^" + m + " and y^" + n, x.common(0, 3, 4), 0);
                shows("x^" + m + " and y^" + n, x, 4, 1);
            }
        }
        FormsOfTwo y = with(of(1, 0, 0, 0, 0, 0, 0, 0, -1), of(1, 0, 0, 0, 1), of(0, 3, 0, -3, 0));
        due("x^8 less y^8 and x^4 and y^4", y.common(0, 1, 4), 4);
        shows("x^8 less y^8 and x^4 and y^4", y, 4, 1, 0, 0, 0, 1);
        due("x^8 less y^8 and 3 x y (x^2 less y^2)", y.common(0, 2, 4), 2);
        shows("x^8 less y^8 and 3 x y (x^2 less y^2)", y, 4, 1, 0, 10006);
    }

    private static void firstNumberOfCommon() {
        for (int v : of(1, 2, 10006, 10008, -5, MOST, LEAST)) {
            FormsOfTwo x = with(of(v), of(0, v, v), of(v, 0), of(0, 0, 0, 0, 0, 0, 0, 0, v));
            for (int s = 0; s <= 3; s++) {
                due("with itself", x.common(s, s, 4), x.degree(s));
                due("no other number than " + v + " before it", x.alike(4, s), Reckon.number(v));
            }
            due("y and y^8", x.common(1, 3, 4), 1);
            shows("y and y^8", x, 4, 0, 1);
        }
    }

    /** Two of degree 8 that share none of their roots, one of them .. all of them. */
    private static void commonOfLines() {
        for (int shared = 0; shared <= 8; shared++) {
            FormsOfTwo x = with(lines(1, 8), lines(9 - shared, 8), lines(9 - shared, shared));
            String told = "roots 1 to 8 and " + (9 - shared) + " to " + (16 - shared);
            for (int s = 0; s <= 1; s++) {
                due(told, x.common(s, 1 - s, 3), shared);
                CHECK.holds(told + ": the shared ones", x.alike(3, 2) > 0);
                due(told + ": the first number", x.term(3, 0), 1);
            }
        }
    }

    // ---- "THE RESULT of f (m) and g (n), both of DEGREE 1 or more"

    private static void resultsOfLowestAndHighest() {
        for (int m = 0; m <= 8; m++) {
            for (int n = 0; n <= 8; n++) {
                int[] f = single(m, 0);
                int[] g = single(n, n);
                f[0] = 2;
                g[n] = 3;
                FormsOfTwo x = with(f, g);
                // rows of f from place r on, then rows of g: 2 and 3 on the diagonal
                int straight = 1;
                for (int i = 0; i < m + n; i++) {
                    straight = straight * (i < n ? 2 : 3) % P;
                }
                boolean none = m == 0 || n == 0;
                String told = "result of 2 x^" + m + " and 3 y^" + n;
                due(told, x.result(0, 1), none ? NOT : straight);
                due(told + ", back", x.result(1, 0), none ? NOT : m * n % 2 == 0 ? straight : P - straight);
                due(told + ": with itself", x.result(0, 0), m == 0 ? NOT : 0);
            }
        }
        FormsOfTwo y = with(of(1, -1), of(0, 0), of(1, 1));
        due("with NOUGHT", y.result(0, 1), 0);
        due("lines", y.result(0, 2), 2);
        due("lines, back", y.result(2, 0), 10005);
    }

    /** The result of products of lines is the product of the lines' results, and the next result starts anew. */
    private static void resultsOfLines() {
        for (int m = 1; m <= 8; m++) {
            for (int n = 1; n <= 8; n++) {
                FormsOfTwo x = with(lines(1, 8), lines(9, 8), lines(1, m), lines(9, n));
                due("the highest", x.result(0, 1), lineResults(8, 8));
                due("degrees " + m + " and " + n + " after it", x.result(2, 3), lineResults(m, n));
                due("the highest with itself", x.result(0, 0), 0);
                due("degrees " + m + " and " + n + " after that", x.result(2, 3), lineResults(m, n));
                due("a rank that is not full", x.rank(0, 1), 2);
                due("degrees " + m + " and " + n + " after a rank", x.result(2, 3), lineResults(m, n));
            }
        }
    }

    /** y less v x for v from 1 on and from 9 on: -v and w for each two. */
    private static int lineResults(int m, int n) {
        int product = 1;
        for (int v = 1; v <= m; v++) {
            for (int w = 9; w < 9 + n; w++) {
                product = product * (w - v) % P;
            }
        }
        return product;
    }

    // ---- "POWERS: for k unlike numbers (k 1 to n and 1)"

    private static void sumsOfPowers() {
        for (int n = 0; n <= 8; n++) {
            FormsOfTwo x = with(single(n, 0), of(1, 2, 3, 4, 5, 6, 7, 8, 9, 9, 9, 9), of(5, 6, 7, 8, 9, 10, 11, 12, 13));
            due("k 0", x.powers(0, 1, 0, 3), BAD);
            due("k 10", x.powers(0, 1, 10, 3), BAD);
            for (int k = 1; k <= 9; k++) {
                x.build(1, 2, k, n, 4);
                due(k + " powers of degree " + n, x.powers(4, 1, k, 3), k <= n + 1 ? k : NOT);
                if (k <= n + 1) {
                    shows(k + " powers of degree " + n, x, 3, java.util.Arrays.copyOf(
                        of(5, 6, 7, 8, 9, 10, 11, 12, 13), k));
                    due("one less is not enough", x.powers(4, 1, Math.max(1, k - 1), 3), k == 1 ? 1 : NOT);
                }
            }
            due("as many as there are make everything", x.powers(0, 1, n + 1, 3), n + 1);
            due("one less do not make x to the n", x.powers(0, 1, Math.max(1, n), 3), n == 0 ? 1 : NOT);
        }
    }

    private static void powersUnlikeModuloP() {
        // x^2 is a sum with any r that has 0 in it
        FormsOfTwo x = with(of(1, 0, 0), of(0, P), of(0, P + 1), of(-1, P - 1, 0), of(LEAST, 8545), of(0, 1, -P));
        due("0 and P are alike", x.powers(0, 1, 2, 6), NOT);
        due("the first alone", x.powers(0, 1, 1, 6), 1);
        due("0 and P and 1 are unlike", x.powers(0, 2, 2, 6), 2);
        shows("0 and P and 1 are unlike", x, 6, 1, 0);
        due("-1 and P less 1 are alike", x.powers(0, 3, 3, 6), NOT);
        due("the least int and its number are alike", x.powers(0, 4, 2, 6), NOT);
        due("the first two are unlike", x.powers(0, 5, 2, 6), 2);
        due("the first and the third are alike", x.powers(0, 5, 3, 6), NOT);
    }

    // ---- "THE SQUARE of a FORM for k (0 to n): rows 0 to k, places 0 to n - k"

    private static void squares() {
        for (int n = 0; n <= 8; n++) {
            FormsOfTwo x = with(single(n, 0), of(1, 2, 3, 4, 5, 6, 7, 8, 9), of(1, 1, 1, 1, 1, 1, 1, 1, 1), new int[n + 1]);
            x.build(1, 2, 9, n, 4);
            due("k -1", x.rank(0, -1), BAD);
            due("k above n", x.rank(0, n + 1), NOT);
            for (int k = 0; k <= n; k++) {
                String told = "square " + k + " of degree " + n;
                due(told + ": one power", x.rank(0, k), 1);
                due(told + ": none", x.rank(3, k), 0);
                due(told + ": nine powers", x.rank(4, k), Math.min(k, n - k) + 1);
            }
        }
    }

    // ---- "LEADS: tables a b c d with numbers of -B to B (B 1 to 2), BOTTOM not 0"

    private static void boundsOfLeads() {
        FormsOfTwo x = with(of(1, 0), of(1, 0), of(-1, 0), of(2, 0), of(-2, 0), of(3, 0), of(0, 0));
        for (int t = 1; t <= 3; t++) {
            due("B 0", x.leads(0, t, 0), BAD);
            due("B 3", x.leads(0, t, 3), BAD);
        }
        // a and b are told by the form; c is any, d any but 0
        int[][] told = {{0, 0}, {6, 20}, {6, 20}, {0, 20}, {0, 20}, {0, 0}, {0, 0}};
        for (int t = 1; t <= 6; t++) {
            for (int b = 1; b <= 2; b++) {
                due("x to form " + t + " within " + b, x.leads(0, t, b), told[t][b - 1]);
            }
        }
        due("NOUGHT to itself: every table whose BOTTOM is not 0", x.leads(6, 6, 1), 48);
        due("NOUGHT to itself: every table whose BOTTOM is not 0", x.leads(6, 6, 2), 496);
        due("NOUGHT to another", x.leads(6, 0, 2), 0);
        FormsOfTwo y = with(of(1, 1), of(1 + P, 1 - P));
        due("modulo P", y.leads(0, 1, 1), y.leads(0, 0, 1));
    }

    /** From x and from y to p x and q y: the other letter may become all that leaves a BOTTOM. */
    private static void leadsOfBothLetters() {
        for (int p = -2; p <= 2; p++) {
            for (int q = -2; q <= 2; q++) {
                int others = 0;
                for (int v = -2; v <= 2; v++) {
                    for (int w = -2; w <= 2; w++) {
                        others += p * w != q * v ? 1 : 0;
                    }
                }
                FormsOfTwo x = with(of(1, 0), of(0, 1), of(p, q));
                due("from x to " + p + ", " + q, x.leads(0, 2, 2), others);
                due("from y to " + p + ", " + q, x.leads(1, 2, 2), others);
                leadsOfSquare(p, q);
            }
        }
    }

    /** From x y^2, where x becomes 2 x less y, and y becomes p x and q y or the same with signs changed. */
    private static void leadsOfSquare(int p, int q) {
        FormsOfTwo x = with(of(0, 0, 1, 0));
        if (x.mix(0, 2, -1, p, q, 1) != 0) {
            int some = 4100 + 10 * (p + 2) + q + 2;
            int same = 4100 + 10 * (2 - p) + 2 - q;
            due("from x y^2", x.leads(0, 1, 2), 2);
            due("from x y^2", x.lead(0, 1, 2, 0), Math.min(some, same));
            due("from x y^2", x.lead(0, 1, 2, 1), Math.max(some, same));
        }
    }

    /** "in order of a, then b, c, d, from -B on" */
    private static void orderOfLeads() {
        for (int bound = 1; bound <= 2; bound++) {
            FormsOfTwo x = with(of(5));
            int i = 0;
            for (int code = 0; code <= 4444; code++) {
                int a = code / 1000 - 2, b = code / 100 % 10 - 2, c = code / 10 % 10 - 2, d = code % 10 - 2;
                int widest = Math.max(Math.max(Math.abs(a), Math.abs(b)), Math.max(Math.abs(c), Math.abs(d)));
                if (widest <= bound && a * d != b * c) {
                    due("lead " + i + " within " + bound, x.lead(0, 0, bound, i), code);
                    i++;
                }
            }
            due("none behind", x.lead(0, 0, bound, i), NONE);
            due("none far behind", x.lead(0, 0, bound, MOST), NONE);
            due("none before", x.lead(0, 0, bound, -1), BAD);
            due("none far before", x.lead(0, 0, bound, LEAST), BAD);
            due("so many", x.leads(0, 0, bound), i);
        }
    }

    // ---- "STAYING ways: the number for DEGREE n (1 to 8), d (0 to 8) and e (0 to n d)"

    private static void waysOfTheLowestAndHighest() {
        for (int n = 1; n <= 8; n++) {
            FormsOfTwo x = new FormsOfTwo();
            for (int d = 0; d <= 8; d++) {
                String told = "staying for " + n + ", " + d + ", ";
                due(told + "the highest (w 0, and none for w below 0)", x.staying(n, d, n * d), 1);
                due(told + "one above", x.staying(n, d, n * d + 1), BAD);
                due(told + "-1", x.staying(n, d, -1), BAD);
                if (n * d >= 2) {
                    due(told + "the next (one way each for w 1 and 0)", x.staying(n, d, n * d - 2), 0);
                }
                if (n * d >= 4) {
                    due(told + "the next but one", x.staying(n, d, n * d - 4), n >= 2 && d >= 2 ? 1 : 0);
                }
            }
            due("d -1", x.staying(n, -1, 0), BAD);
            due("d 9", x.staying(n, 9, 0), BAD);
        }
        FormsOfTwo y = new FormsOfTwo();
        for (int d = 0; d <= 8; d++) {
            due("n 0", y.staying(0, d, 0), BAD);
            due("n 9", y.staying(9, d, 0), BAD);
        }
    }

    private static void waysOfOddOnes() {
        for (int n = 1; n <= 8; n++) {
            FormsOfTwo x = new FormsOfTwo();
            for (int d = 1; d <= 8; d++) {
                int odd = 0;
                for (int e = n * d - 1; e >= 0; e -= 2) {
                    odd += Math.abs(x.staying(n, d, e));
                }
                due("all odd ones for " + n + ", " + d, odd, 0);
            }
        }
    }

    // ---- "h is 17; h becomes 31 h and each of .. as longs that wrap"

    private static void digests() {
        FormsOfTwo x = new FormsOfTwo();
        due("of nothing", x.digest(), 17 * 31 * 31);
        x.sheet(9, 2, 0);
        due("of an empty row", x.digest(), (17 * 31 + 1) * 31);
        x.sheet(9, 2, 10);
        due("of ten items", x.digest(), (17 * 31 + 1) * 31);
        x.sheet(9, 2, 1);
        due("of one item", x.digest(), ((((17 * 31 + 1) * 31L + 1) * 31 + 9) * 31) * 31);
        Board.layKind(x, 9, 0, -1);
        due("of a byte", x.digest(), ((((17 * 31 + 1) * 31L + 1) * 31 + 9) * 31) * 31 + 10006);
        x.lose(9);
        due("of nothing again", x.digest(), 17 * 31 * 31);
        FormsOfTwo y = new FormsOfTwo();
        java.math.BigInteger h = java.math.BigInteger.valueOf((17 * 31 + 10) * 31 + 10);
        java.math.BigInteger by = java.math.BigInteger.valueOf(31);
        for (int s = 0; s < 10; s++) {
            y.sheet(s, 2, 9);
            h = h.multiply(by).add(java.math.BigInteger.valueOf(s));
            h = h.multiply(by).add(java.math.BigInteger.valueOf(8));
            for (int i = 0; i < 9; i++) {
                y.put(s, 2, i, -1 - s * i);
                h = h.multiply(by).add(java.math.BigInteger.valueOf(10006 - s * i));
            }
        }
        CHECK.holds("it is beyond a long", h.bitLength() > 64);
        due("it wraps", y.digest(), h.longValue());
    }
}
