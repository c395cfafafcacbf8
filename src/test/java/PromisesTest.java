/** Each promise with ordinary inputs, the edges that the document names, and wrong inputs. */
public final class PromisesTest {
    private static final Check CHECK = new Check("promises");
    private static final int P = 10007;
    private static final int LEAST = Integer.MIN_VALUE, MOST = Integer.MAX_VALUE;
    private static final int BAD = -2, NOT = -3, NULL = -11, INDEX = -12, CAST = -13, STORE = -14, SIZE = -15;
    private static final int[] NO_SHEETS = {-1, 10, LEAST, MOST};

    public static void main(String[] args) {
        aNewObject();
        sheet();
        lose();
        put();
        get();
        copy();
        copyRefused();
        term();
        degree();
        value();
        join();
        joinRefused();
        mix();
        change();
        overlap();
        overlapRefused();
        alike();
        roots();
        root();
        common();
        result();
        powers();
        powersRefused();
        build();
        rank();
        leads();
        lead();
        staying();
        count();
        digest();
        sheetsMadeAreRowsOfTheirOwn();
        refusalsChangeNothing();
        CHECK.end();
    }

    private static void due(String call, long got, long want) {
        CHECK.due(call, got, want);
    }

    private static FormsOfTwo with(int[]... forms) {
        FormsOfTwo x = new FormsOfTwo();
        for (int s = 0; s < forms.length; s++) {
            lay(x, s, forms[s]);
        }
        return x;
    }

    private static int[] of(int... items) {
        return items;
    }

    private static void lay(FormsOfTwo x, int s, int... items) {
        x.sheet(s, 2, items.length);
        for (int i = 0; i < items.length; i++) {
            x.put(s, 2, i, items[i]);
        }
    }

    /** The sheet is an int row of just these items. */
    private static void shows(String what, FormsOfTwo x, int s, int... items) {
        for (int i = 0; i < items.length; i++) {
            due(what + ": item " + i, x.get(s, 2, i), items[i]);
        }
        due(what + ": no further item", x.get(s, 2, items.length), LEAST);
        due(what + ": count(1) after it", x.count(1), 2);
    }

    private static int times(int a, int b) {
        return (int) ((long) Math.floorMod(a, P) * Math.floorMod(b, P) % P);
    }

    private static int part(int a, int b) {
        for (int v = 0; v < P; v++) {
            if (times(v, b) == Math.floorMod(a, P)) {
                return v;
            }
        }
        return -1;
    }

    private static void aNewObject() {
        FormsOfTwo x = new FormsOfTwo();
        due("1 count(0)", x.count(0), 0);
        due("1 count(1)", x.count(1), 0);
        due("1 count(2)", x.count(2), 0);
        due("1 digest()", x.digest(), 17 * 31 * 31);
        for (int s = 0; s < 10; s++) {
            due("1 lose", x.lose(s), NULL);
            due("1 degree", x.degree(s), NULL);
        }
        x.sheet(0, 0, 1);
        due("1 another object has sheets of its own", new FormsOfTwo().count(0), 0);
        due("1 NONE", FormsOfTwo.NONE, -1);
        due("1 BAD", FormsOfTwo.BAD, -2);
        due("1 NOT", FormsOfTwo.NOT, -3);
    }

    private static void sheet() {
        FormsOfTwo x = new FormsOfTwo();
        for (int s : NO_SHEETS) {
            due("2 no sheet", x.sheet(s, 0, 1), BAD);
            due("2 no sheet, below 0", x.sheet(s, 0, -1), BAD);
        }
        for (int kind : of(-1, 3, LEAST, MOST)) {
            due("2 no kind", x.sheet(0, kind, 1), BAD);
            due("2 no kind, below 0", x.sheet(0, kind, -1), BAD);
        }
        due("2 above 12", x.sheet(0, 0, 13), BAD);
        due("2 far above 12", x.sheet(0, 0, MOST), BAD);
        due("2 no finding yet", x.count(1), 0);
        due("2 below 0", x.sheet(0, 0, -1), SIZE);
        due("2 far below 0", x.sheet(9, 2, LEAST), SIZE);
        due("2 count(1)", x.count(1), 5);
        due("2 nothing made", x.count(0), 0);
        for (int kind = 0; kind < 3; kind++) {
            for (int n = 0; n <= 12; n++) {
                due("2 n", x.sheet(9, kind, n), n);
                for (int i = 0; i < n; i++) {
                    due("2 items are 0 at first", x.get(9, kind, i), 0);
                    x.put(9, kind, i, 77);
                }
                due("2 so many items", x.get(9, kind, n), LEAST);
                due("2 so many items", x.count(1), 2);
                due("2 another kind", x.get(9, (kind + 1) % 3, 0), LEAST);
                due("2 another kind", x.count(1), 3);
            }
        }
        due("2 one sheet", x.count(0), 1);
        due("2 SIZE leaves the sheet", x.sheet(9, 0, -1), SIZE);
        due("2 SIZE leaves the sheet", x.get(9, 2, 11), 77);
    }

    private static void lose() {
        FormsOfTwo x = new FormsOfTwo();
        for (int s : NO_SHEETS) {
            due("3 no sheet", x.lose(s), BAD);
        }
        due("3 no finding", x.count(1), 0);
        for (int n = 0; n <= 12; n++) {
            x.sheet(3, n % 3, n);
            due("3 how many it had", x.lose(3), n);
            due("3 lost", x.count(0), 0);
            due("3 lost already", x.lose(3), NULL);
            due("3 count(1)", x.count(1), 1);
        }
        lay(x, 3, 5, 6);
        x.lose(3);
        x.sheet(3, 2, 2);
        due("3 items are 0 anew", x.get(3, 2, 1), 0);
    }

    private static void put() {
        FormsOfTwo x = new FormsOfTwo();
        x.sheet(0, 0, 2);
        x.sheet(1, 1, 2);
        x.sheet(2, 2, 2);
        for (int v : of(0, 1, -1, 127, 128, 255, 256, -129, 32767, 32768, 65536, -32769, LEAST, MOST)) {
            due("4 put byte", x.put(0, 0, 1, v), 1);
            due("4 byte", x.get(0, 0, 1), (byte) v);
            due("4 put short", x.put(1, 1, 1, v), 1);
            due("4 short", x.get(1, 1, 1), (short) v);
            due("4 put int", x.put(2, 2, 1, v), 1);
            due("4 int", x.get(2, 2, 1), v);
        }
        due("4 the other item", x.get(0, 0, 0), 0);
        for (int s : NO_SHEETS) {
            due("4 no sheet", x.put(s, 0, 0, 1), BAD);
        }
        for (int kind : of(-1, 3, LEAST, MOST)) {
            due("4 no kind", x.put(0, kind, 0, 1), BAD);
            due("4 no kind of a lost one", x.put(5, kind, 0, 1), BAD);
        }
        due("4 no finding", x.count(1), 0);
        due("4 lost", x.put(5, 0, -1, 1), NULL);
        due("4 another kind", x.put(0, 1, 0, 1), CAST);
        due("4 another kind before no item", x.put(0, 1, 2, 1), CAST);
        due("4 count(1)", x.count(1), 3);
        for (int i : of(-1, 2, LEAST, MOST)) {
            due("4 no item", x.put(0, 0, i, 1), INDEX);
        }
        due("4 count(1)", x.count(1), 2);
        due("4 nothing changed", x.get(0, 0, 0), 0);
    }

    private static void get() {
        FormsOfTwo x = new FormsOfTwo();
        x.sheet(0, 1, 12);
        x.put(0, 1, 11, 40000);
        due("5 item", x.get(0, 1, 11), 40000 - 65536);
        for (int s : NO_SHEETS) {
            due("5 no sheet", x.get(s, 0, 0), LEAST);
        }
        due("5 no kind", x.get(0, 3, 0), LEAST);
        due("5 no kind", x.get(0, -1, 0), LEAST);
        due("5 BAD is no finding", x.count(1), 0);
        due("5 lost", x.get(1, 0, 50), LEAST);
        due("5 lost", x.count(1), 1);
        due("5 another kind", x.get(0, 2, 12), LEAST);
        due("5 another kind", x.count(1), 3);
        for (int i : of(-1, 12, LEAST, MOST)) {
            x.get(1, 0, 0);
            due("5 no item", x.get(0, 1, i), LEAST);
            due("5 no item", x.count(1), 2);
        }
    }

    private static void copy() {
        FormsOfTwo x = with(of(1, 2, 3, 4, 5), of(0, 0, 0));
        due("6 copy", x.copy(0, 2, 1, 1, 2), 1);
        shows("6 copy", x, 1, 0, 3, 4);
        shows("6 the source stays", x, 0, 1, 2, 3, 4, 5);
        due("6 onwards in itself", x.copy(0, 0, 0, 1, 4), 1);
        shows("6 onwards in itself", x, 0, 1, 1, 2, 3, 4);
        due("6 back in itself", x.copy(0, 2, 0, 0, 3), 1);
        shows("6 back in itself", x, 0, 2, 3, 4, 3, 4);
        due("6 none, at the end", x.copy(0, 5, 1, 3, 0), 1);
        due("6 all", x.copy(1, 0, 0, 2, 3), 1);
        shows("6 all", x, 0, 2, 3, 0, 3, 4);
        x.put(1, 2, 0, 9);
        shows("6 rows are not one", x, 0, 2, 3, 0, 3, 4);
    }

    private static void copyRefused() {
        FormsOfTwo x = with(of(1, 2, 3), of(4, 5));
        x.sheet(2, 1, 3);
        for (int s : NO_SHEETS) {
            due("6 no source", x.copy(s, 0, 1, 0, 1), BAD);
            due("6 no target", x.copy(0, 0, s, 0, 1), BAD);
            due("6 no target, source lost", x.copy(7, 0, s, 0, 1), BAD);
        }
        due("6 no finding", x.count(1), 0);
        due("6 source lost", x.copy(7, 0, 1, 0, 1), NULL);
        due("6 target lost", x.copy(0, -1, 7, 0, 1), NULL);
        due("6 unlike kinds", x.copy(0, 0, 2, 0, 1), STORE);
        due("6 unlike kinds, none", x.copy(2, 0, 0, 0, 0), STORE);
        due("6 unlike kinds before no item", x.copy(2, -1, 0, 9, 99), STORE);
        due("6 count(1)", x.count(1), 4);
        int[][] wrong = {{-1, 0, 1}, {0, -1, 1}, {0, 0, -1}, {4, 0, 0}, {0, 3, 0}, {1, 0, 3}, {0, 0, 3}, {0, 1, 2},
            {MOST, 0, MOST}, {0, MOST, MOST}, {1, 1, MOST}, {LEAST, 0, 1}, {0, LEAST, 1}, {1, 1, LEAST}, {MOST, 0, 1}};
        for (int[] w : wrong) {
            due("6 no such items", x.copy(0, w[0], 1, w[1], w[2]), INDEX);
        }
        due("6 count(1)", x.count(1), 2);
        shows("6 nothing changed", x, 1, 4, 5);
    }

    private static void term() {
        FormsOfTwo x = with(of(-1, P, MOST, LEAST), of(1, 2, 3, 4, 5, 6, 7, 8, 9), new int[0], new int[10]);
        due("7 below 0", x.term(0, 0), P - 1);
        due("7 P", x.term(0, 1), 0);
        due("7 most", x.term(0, 2), 2147483647L % P);
        due("7 least", x.term(0, 3), P - 2147483648L % P);
        due("7 beyond", x.term(0, 4), 0);
        due("7 beyond", x.term(0, 8), 0);
        due("7 the last of all", x.term(1, 8), 9);
        due("7 no item has this number", x.term(0, -1), BAD);
        due("7 no item has this number", x.term(0, 9), BAD);
        due("7 BAD before NULL", x.term(5, 9), BAD);
        for (int s : NO_SHEETS) {
            due("7 no sheet", x.term(s, 0), BAD);
        }
        due("7 no items", x.term(2, 0), NOT);
        due("7 ten items", x.term(3, 0), NOT);
        due("7 no finding", x.count(1), 0);
        due("7 lost", x.term(5, 0), NULL);
        x.sheet(4, 0, 2);
        x.put(4, 0, 1, 200);
        due("7 bytes", x.term(4, 1), P - 56);
        due("7 items of a longer row are not seen", x.term(4, 2), 0);
        lay(x, 5, 1, 2, 3);
        x.sheet(5, 2, 1);
        due("7 nor those that were", x.term(5, 2), 0);
    }

    private static void degree() {
        FormsOfTwo x = new FormsOfTwo();
        for (int s : NO_SHEETS) {
            due("8 no sheet", x.degree(s), BAD);
        }
        due("8 no finding", x.count(1), 0);
        due("8 lost", x.degree(9), NULL);
        due("8 count(1)", x.count(1), 1);
        for (int n = 0; n <= 12; n++) {
            x.sheet(9, n % 3, n);
            due("8 degree", x.degree(9), n >= 1 && n <= 9 ? n - 1 : NOT);
        }
    }

    private static void value() {
        FormsOfTwo x = with(of(2, -3, 5), of(7), of(1, 0, 0, 0, 0, 0, 0, 0, 1), new int[12]);
        due("9 value", x.value(0, 3, 4), 2 * 9 - 3 * 12 + 5 * 16);
        due("9 below 0", x.value(0, 1, 1 - P), 4);
        due("9 at 0 0", x.value(0, 0, 0), 0);
        due("9 at 1 0", x.value(0, 1, 0), 2);
        due("9 at 0 1", x.value(0, 0, 1), 5);
        due("9 degree 0 at 0 0", x.value(1, 0, 0), 7);
        due("9 degree 8", x.value(2, 2, 3), (256 + 6561) % P);
        int least = Math.floorMod(LEAST, P);
        due("9 least", x.value(0, LEAST, 1), Math.floorMod(2 * times(least, least) - 3 * least + 5, P));
        due("9 most", x.value(2, 0, MOST), java.math.BigInteger.valueOf(MOST).pow(8).mod(
            java.math.BigInteger.valueOf(P)).intValue());
        for (int s : NO_SHEETS) {
            due("9 no sheet", x.value(s, 0, 0), BAD);
        }
        due("9 no form", x.value(3, 1, 1), NOT);
        due("9 lost", x.value(4, 1, 1), NULL);
    }

    private static void join() {
        FormsOfTwo x = with(of(1, 2, 3), of(10, P - 2, -7), of(5, -1), of(1, 1, 1, 1, 1, 1, 1));
        due("10 together", x.join(0, 1, 4, 0), 2);
        shows("10 together", x, 4, 11, 0, P - 4);
        due("10 less", x.join(0, 1, 4, 1), 2);
        shows("10 less", x, 4, P - 9, 4, 10);
        due("10 product", x.join(0, 2, 4, 2), 3);
        shows("10 product", x, 4, 5, 9, 13, P - 3);
        due("10 times a 0", x.join(0, 2, 4, 3), 2);
        shows("10 times a 0", x, 4, 5, 10, 15);
        due("10 times a 0 of a higher one", x.join(2, 1, 4, 3), 1);
        shows("10 times a 0 of a higher one", x, 4, 50, P - 10);
        due("10 product of degree 8", x.join(0, 3, 4, 2), 8);
        shows("10 product of degree 8", x, 4, 1, 3, 6, 6, 6, 6, 6, 5, 3);
        due("10 into itself", x.join(0, 0, 0, 2), 4);
        shows("10 into itself", x, 0, 1, 4, 10, 12, 9);
        due("10 less itself", x.join(0, 0, 0, 1), 4);
        shows("10 less itself", x, 0, 0, 0, 0, 0, 0);
        due("10 into t", x.join(1, 2, 2, 2), 3);
        shows("10 into t", x, 2, 50, P - 20, Math.floorMod(-35 + 2, P), 7);
        lay(x, 5, P - 1, 1);
        due("10 great numbers", x.join(5, 5, 5, 2), 2);
        shows("10 great numbers", x, 5, 1, P - 2, 1);
    }

    private static void joinRefused() {
        FormsOfTwo x = with(of(1, 2, 3), of(1, 2), of(1, 1, 1, 1, 1, 1, 1, 1), new int[10]);
        for (int s : NO_SHEETS) {
            due("10 no s", x.join(s, 0, 4, 0), BAD);
            due("10 no t", x.join(0, s, 4, 0), BAD);
            due("10 no u", x.join(0, 0, s, 0), BAD);
            due("10 no u, s lost", x.join(7, 0, s, 0), BAD);
        }
        for (int what : of(-1, 4, LEAST, MOST)) {
            due("10 no such what", x.join(0, 0, 4, what), BAD);
            due("10 no such what, s lost", x.join(7, 0, 4, what), BAD);
        }
        due("10 no finding", x.count(1), 0);
        for (int what = 0; what < 4; what++) {
            due("10 s lost, t no form", x.join(7, 3, 4, what), NULL);
            due("10 t lost, s no form", x.join(3, 7, 4, what), NULL);
            due("10 s no form", x.join(3, 0, 4, what), NOT);
            due("10 t no form", x.join(0, 3, 4, what), NOT);
        }
        due("10 unlike degrees, together", x.join(0, 1, 4, 0), NOT);
        due("10 unlike degrees, less", x.join(1, 0, 4, 1), NOT);
        due("10 degree 9", x.join(0, 2, 4, 2), NOT);
        due("10 nothing made", x.degree(4), NULL);
    }

    private static void mix() {
        FormsOfTwo x = with(of(1, 2, 3), of(9), of(0, 0, 0, 0, 0, 0, 0, 0, 1), of(1, 0, 0, 0), new int[11]);
        // (2x + 3y)^2 + 2 (2x + 3y)(5x - y) + 3 (5x - y)^2
        due("11 bottom", x.mix(0, 2, 3, 5, -1, 5), P - 17);
        shows("11 mixed", x, 5, 4 + 20 + 75, 12 + 2 * 13 - 30, 9 - 6 + 3);
        due("11 as it is", x.mix(0, 1, 0, 0, 1, 5), 1);
        shows("11 as it is", x, 5, 1, 2, 3);
        due("11 letters changed about", x.mix(0, 0, 1, 1, 0, 5), P - 1);
        shows("11 letters changed about", x, 5, 3, 2, 1);
        due("11 degree 0", x.mix(1, 4, 0, 0, 5, 5), 20);
        shows("11 degree 0", x, 5, 9);
        due("11 all 0", x.mix(0, 0, 0, 0, 0, 5), 0);
        shows("11 all 0", x, 5, 0, 0, 0);
        due("11 y to the 8", x.mix(2, 3, 4, 1, 1, 5), P - 1);
        shows("11 y to the 8", x, 5, 1, 8, 28, 56, 70, 56, 28, 8, 1);
        due("11 into itself", x.mix(3, 1, 2, 0, 1, 3), 1);
        shows("11 into itself", x, 3, 1, 6, 12, 8);
        int most = Math.floorMod(MOST, P);
        int least = Math.floorMod(LEAST, P);
        due("11 wide numbers", x.mix(0, MOST, LEAST, LEAST, MOST, 5),
            Math.floorMod(times(most, most) - times(least, least), P));
        due("11 wide numbers", x.term(5, 0),
            (times(most, most) + 2 * times(most, least) + 3 * times(least, least)) % P);
        for (int s : NO_SHEETS) {
            due("11 no s", x.mix(s, 1, 0, 0, 1, 5), BAD);
            due("11 no u", x.mix(0, 1, 0, 0, 1, s), BAD);
            due("11 no u, s lost", x.mix(8, 1, 0, 0, 1, s), BAD);
        }
        due("11 no form", x.mix(4, 1, 0, 0, 1, 6), NOT);
        due("11 lost", x.mix(8, 1, 0, 0, 1, 6), NULL);
        due("11 nothing made", x.degree(6), NULL);
    }

    private static void change() {
        FormsOfTwo x = with(of(1, 2, 3, 4), of(1, 1, 1, 1, 1, 1, 1, 1, 1), of(5), new int[0]);
        due("12 by x", x.change(0, 0, 4), 2);
        shows("12 by x", x, 4, 3, 4, 3);
        due("12 by y", x.change(0, 1, 4), 2);
        shows("12 by y", x, 4, 2, 6, 12);
        due("12 degree 8 by x", x.change(1, 0, 4), 7);
        shows("12 degree 8 by x", x, 4, 8, 7, 6, 5, 4, 3, 2, 1);
        due("12 degree 8 by y, into itself", x.change(1, 1, 1), 7);
        shows("12 degree 8 by y, into itself", x, 1, 1, 2, 3, 4, 5, 6, 7, 8);
        due("12 degree 0", x.change(2, 0, 4), NOT);
        due("12 degree 0", x.change(2, 1, 4), NOT);
        due("12 no form", x.change(3, 0, 4), NOT);
        for (int s : NO_SHEETS) {
            due("12 no s", x.change(s, 0, 4), BAD);
            due("12 no u", x.change(0, 0, s), BAD);
            due("12 no u, degree 0", x.change(2, 0, s), BAD);
        }
        for (int what : of(-1, 2, LEAST, MOST)) {
            due("12 no such what", x.change(0, what, 4), BAD);
            due("12 no such what, lost", x.change(8, what, 4), BAD);
        }
        due("12 lost", x.change(8, 0, 4), NULL);
        lay(x, 5, 9, 4);
        due("12 to degree 0", x.change(5, 1, 5), 0);
        shows("12 to degree 0", x, 5, 4);
    }

    private static void overlap() {
        FormsOfTwo x = with(of(1, 0, 0, 0), of(0, 0, 0, 0, 1), of(3, 5, 7), of(2, -1, 4));
        due("13 1 of x^3 and y^4", x.overlap(0, 1, 1, 5), 5);
        shows("13 1 of x^3 and y^4", x, 5, 0, 0, 0, 1, 0, 0);
        due("13 1 of y^4 and x^3", x.overlap(1, 0, 1, 5), 5);
        shows("13 1 of y^4 and x^3", x, 5, 0, 0, 0, P - 1, 0, 0);
        due("13 3 of x^3 and y^4", x.overlap(0, 1, 3, 5), 1);
        shows("13 3 of x^3 and y^4", x, 5, 0, 1);
        due("13 0 is the product", x.overlap(2, 3, 0, 5), 4);
        shows("13 0 is the product", x, 5, 6, 7, 21, 13, 28);
        // (f_x g_y - f_y g_x) / 4
        due("13 1", x.overlap(2, 3, 1, 5), 2);
        shows("13 1", x, 5, part(-26, 4), part(-8, 4), part(54, 4));
        // (f_xx g_yy - 2 f_xy g_xy + f_yy g_xx) / 4
        due("13 2", x.overlap(2, 3, 2, 5), 0);
        shows("13 2", x, 5, part(6 * 8 - 2 * 5 * -1 + 14 * 4, 4));
        lay(x, 6, 1, 0, 0, 0, 0, 0, 0, 0, 2);
        due("13 8", x.overlap(6, 6, 8, 6), 0);
        shows("13 8 into itself", x, 6, 4);
        lay(x, 7, 0, 0, 0, 0, 1, 0, 0, 0, 0);
        due("13 4 of degree 8", x.overlap(7, 7, 4, 5), 8);
        due("13 4 of degree 8 has one term", x.term(5, 3), 0);
        int sum = 0;
        int[] choices = {1, 4, 6, 4, 1};
        for (int i = 0; i <= 4; i++) {
            int left = down(4, 4 - i) * down(4, i);
            sum = Math.floorMod(sum + (i % 2 == 0 ? 1 : -1) * times(choices[i], times(left, left)), P);
        }
        due("13 4 of degree 8", x.term(5, 4), part(sum, times(1680, 1680)));
        lay(x, 8, 6);
        due("13 degree 0", x.overlap(8, 8, 0, 8), 0);
        shows("13 degree 0", x, 8, 36);
    }

    private static int down(int n, int times) {
        int answer = 1;
        for (int i = 0; i < times; i++) {
            answer *= n - i;
        }
        return answer;
    }

    private static void overlapRefused() {
        FormsOfTwo x = with(of(1, 2, 3), of(1, 2), new int[9], new int[10]);
        for (int s : NO_SHEETS) {
            due("13 no s", x.overlap(s, 0, 0, 4), BAD);
            due("13 no t", x.overlap(0, s, 0, 4), BAD);
            due("13 no u", x.overlap(0, 0, 0, s), BAD);
        }
        for (int k : of(-1, 9, LEAST, MOST)) {
            due("13 no k", x.overlap(0, 0, k, 4), BAD);
            due("13 no k, lost", x.overlap(7, 0, k, 4), BAD);
        }
        due("13 s lost", x.overlap(7, 3, 0, 4), NULL);
        due("13 t lost", x.overlap(3, 7, 0, 4), NULL);
        due("13 s no form", x.overlap(3, 0, 0, 4), NOT);
        due("13 t no form", x.overlap(0, 3, 0, 4), NOT);
        due("13 k above m", x.overlap(1, 0, 2, 4), NOT);
        due("13 k above n", x.overlap(0, 1, 2, 4), NOT);
        due("13 degree 10", x.overlap(2, 0, 0, 4), NOT);
        due("13 degree 10", x.overlap(2, 2, 3, 4), NOT);
        due("13 degree 8", x.overlap(2, 0, 1, 4), 8);
        due("13 degree 6", x.overlap(2, 0, 2, 4), 6);
        due("13 k 8", x.overlap(0, 2, 8, 4), NOT);
    }

    private static void alike() {
        FormsOfTwo x = with(of(0, 2, -4), of(0, -3, 6), of(0, 2, 4), new int[3], new int[2], of(0, 2), new int[10],
            of(1, 2, -4), of(P, 2 + P, -4 - P));
        due("14 number", x.alike(0, 1), part(-3, 2));
        due("14 number back", x.alike(1, 0), part(2, -3));
        due("14 itself", x.alike(0, 0), 1);
        due("14 itself modulo P", x.alike(0, 8), 1);
        due("14 not alike", x.alike(0, 2), 0);
        due("14 not alike at first", x.alike(0, 7), 0);
        due("14 not alike at first", x.alike(7, 0), 0);
        due("14 both nought", x.alike(3, 3), 1);
        due("14 s nought", x.alike(3, 0), 0);
        due("14 t nought", x.alike(0, 3), 0);
        due("14 unlike degrees", x.alike(0, 5), 0);
        due("14 nought of unlike degrees", x.alike(3, 4), 0);
        due("14 s no form", x.alike(6, 0), NOT);
        due("14 t no form", x.alike(0, 6), NOT);
        due("14 s lost", x.alike(9, 6), NULL);
        due("14 t lost", x.alike(6, 9), NULL);
        for (int s : NO_SHEETS) {
            due("14 no s", x.alike(s, 9), BAD);
            due("14 no t", x.alike(9, s), BAD);
        }
    }

    private static void roots() {
        FormsOfTwo x = with(of(0, 0, 1, 0, 0), of(5), new int[4], new int[10], of(1, 0, 1), of(1, -2, 1), of(0, 3),
            of(3, 0));
        due("15 x^2 y^2", x.roots(0), 2);
        due("15 degree 0", x.roots(1), 0);
        due("15 nought", x.roots(2), NOT);
        due("15 nought modulo P", with(of(P, 0, -P)).roots(0), NOT);
        due("15 no form", x.roots(3), NOT);
        due("15 x^2 and y^2", x.roots(4), 0);
        due("15 one root twice", x.roots(5), 1);
        due("15 y", x.roots(6), 1);
        due("15 x", x.roots(7), 1);
        for (int s : NO_SHEETS) {
            due("15 no sheet", x.roots(s), BAD);
        }
        due("15 lost", x.roots(9), NULL);
        // y (x - y) .. has every place 0 : 1, 1 : 0, and more
        FormsOfTwo y = with(of(0, 1), of(1, 0));
        for (int v = 1; v <= 6; v++) {
            lay(y, 2, v, -1);
            y.join(0, 2, 0, 2);
        }
        y.join(0, 1, 0, 2);
        due("15 eight roots", y.roots(0), 8);
        for (int i = 0; i < 7; i++) {
            due("16 root", y.root(0, i), i);
        }
        due("16 the last", y.root(0, 7), P);
        due("16 no ninth", y.root(0, 8), -1);
    }

    private static void root() {
        FormsOfTwo x = with(of(0, 0, 1, 0, 0), of(5), new int[4], new int[10], of(0, 3), of(3, 0), of(-1, 1));
        due("16 first", x.root(0, 0), 0);
        due("16 0 : 1", x.root(0, 1), P);
        due("16 none", x.root(0, 2), -1);
        due("16 none", x.root(0, MOST), -1);
        due("16 degree 0", x.root(1, 0), -1);
        due("16 y", x.root(4, 0), 0);
        due("16 y", x.root(4, 1), -1);
        due("16 x", x.root(5, 0), P);
        due("16 x", x.root(5, 1), -1);
        due("16 1 : 1", x.root(6, 0), 1);
        lay(x, 6, 1, 1);
        due("16 1 : -1", x.root(6, 0), P - 1);
        due("16 nought", x.root(2, 0), NOT);
        due("16 no form", x.root(3, 0), NOT);
        due("16 i below 0", x.root(0, -1), BAD);
        due("16 i below 0, lost", x.root(9, LEAST), BAD);
        for (int s : NO_SHEETS) {
            due("16 no sheet", x.root(s, 0), BAD);
        }
        due("16 lost", x.root(9, 0), NULL);
    }

    private static void common() {
        FormsOfTwo x = with(of(0, 0, 2, 2, 0), of(0, 0, 0, 3, 0), of(7), new int[2], new int[10],
            of(2, 4, 2), of(3, 3));
        // 2 y^2 x (x + y) and 3 x y^3
        due("17 x y^2", x.common(0, 1, 7), 3);
        shows("17 x y^2", x, 7, 0, 0, 1, 0);
        due("17 back", x.common(1, 0, 7), 3);
        shows("17 back", x, 7, 0, 0, 1, 0);
        due("17 degree 0", x.common(0, 2, 7), 0);
        shows("17 degree 0", x, 7, 1);
        due("17 both degree 0", x.common(2, 2, 7), 0);
        shows("17 both degree 0", x, 7, 1);
        due("17 x and y", x.common(5, 6, 7), 1);
        shows("17 x and y", x, 7, 1, 1);
        due("17 with itself, into itself", x.common(5, 5, 5), 2);
        shows("17 with itself, into itself", x, 5, 1, 2, 1);
        due("17 with its product", x.join(5, 0, 7, 2), 6);
        due("17 with its product", x.common(7, 0, 8), 4);
        shows("17 with its product", x, 8, 0, 0, 1, 1, 0);
        for (int s : NO_SHEETS) {
            due("17 no s", x.common(s, 0, 7), BAD);
            due("17 no t", x.common(0, s, 7), BAD);
            due("17 no u", x.common(0, 0, s), BAD);
            due("17 no u, nought", x.common(3, 3, s), BAD);
        }
        due("17 s nought", x.common(3, 0, 7), NOT);
        due("17 t nought", x.common(0, 3, 7), NOT);
        due("17 s no form", x.common(4, 0, 7), NOT);
        due("17 t no form", x.common(0, 4, 7), NOT);
        due("17 t lost, s nought", x.common(3, 9, 7), NULL);
        due("17 s lost, t no form", x.common(9, 4, 7), NULL);
        lay(x, 0, 1, 0, 0, 0, 0, 0, 0, 0, -1);
        lay(x, 1, 1, 0, 0, 0, 0, 0, -1);
        due("17 x^8 less y^8, x^6 less y^6", x.common(0, 1, 2), 2);
        shows("17 x^8 less y^8, x^6 less y^6", x, 2, 1, 0, P - 1);
    }

    private static void result() {
        FormsOfTwo x = with(of(2, 3), of(5, 7), of(1, 4, -2), new int[3], of(6), new int[10],
            of(1, 0, 0, 0, 0, 0, 0, 0, 0), of(0, 0, 0, 0, 0, 0, 0, 0, 3));
        due("18 lines", x.result(0, 1), P - 1);
        due("18 lines back", x.result(1, 0), 1);
        // rows 2 3 0, 0 2 3, 1 4 -2
        due("18 a line and a square", x.result(0, 2), P - 23);
        due("18 a square and a line", x.result(2, 0), P - 23);
        due("18 nought", x.result(0, 3), 0);
        due("18 x^8 and 3 y^8", x.result(6, 7), 6561);
        due("18 y^8 and x^8", x.result(7, 6), 6561);
        due("18 itself", x.result(2, 2), 0);
        lay(x, 8, 1, 0, 0, 0);
        lay(x, 9, 0, 0, 0, 2);
        due("18 odd degrees", x.result(8, 9), 8);
        due("18 odd degrees back", x.result(9, 8), P - 8);
        due("18 s of degree 0", x.result(4, 0), NOT);
        due("18 t of degree 0", x.result(0, 4), NOT);
        due("18 s no form", x.result(5, 0), NOT);
        due("18 t no form", x.result(0, 5), NOT);
        x.lose(8);
        due("18 s lost", x.result(8, 5), NULL);
        due("18 t lost", x.result(4, 8), NULL);
        for (int s : NO_SHEETS) {
            due("18 no s", x.result(s, 8), BAD);
            due("18 no t", x.result(8, s), BAD);
        }
    }

    private static void powers() {
        // (x + y)^2 is 1 2 1, (x - y)^2 is 1 -2 1
        FormsOfTwo x = with(of(5, 4, 5), of(1, -1, 0), of(0, 2), of(7), new int[9]);
        due("19 two", x.powers(0, 1, 2, 5), 2);
        shows("19 two", x, 5, part(7, 2), part(3, 2));
        due("19 three", x.powers(0, 1, 3, 5), 3);
        shows("19 three", x, 5, part(7, 2), part(3, 2), 0);
        due("19 one is not enough", x.powers(0, 1, 1, 5), NOT);
        due("19 x^2 and y^2 alone", x.powers(0, 2, 2, 6), NOT);
        due("19 nothing made", x.degree(6), NULL);
        due("19 degree 0", x.powers(3, 1, 1, 5), 1);
        shows("19 degree 0", x, 5, 7);
        lay(x, 7, 1, 2, 3, 4, 5, 6, 7, 8, 9, 9, 9, 9);
        due("19 nought", x.powers(4, 7, 9, 5), 9);
        shows("19 nought", x, 5, 0, 0, 0, 0, 0, 0, 0, 0, 0);
        lay(x, 6, 3, 1, 4, 1, 5, 9, 2, 6, 5, 3, 5);
        x.build(7, 6, 9, 8, 8);
        due("19 nine, into s", x.powers(8, 7, 9, 8), 9);
        shows("19 nine, into s", x, 8, 3, 1, 4, 1, 5, 9, 2, 6, 5);
        due("19 into t", x.powers(0, 1, 2, 1), 2);
        shows("19 into t", x, 1, part(7, 2), part(3, 2));
        x.sheet(9, 0, 11);
        x.put(9, 0, 0, 257);
        x.put(9, 0, 1, 255);
        due("19 bytes", x.powers(0, 9, 2, 9), 2);
        shows("19 bytes", x, 9, part(7, 2), part(3, 2));
        lay(x, 1, 1 + P, -1 - P);
        due("19 modulo P", x.powers(0, 1, 2, 5), 2);
        shows("19 modulo P", x, 5, part(7, 2), part(3, 2));
        lay(x, 0, 2, 0, 0, 0, 54);
        lay(x, 1, 0, 3, -3);
        due("19 rows beyond k", x.powers(0, 1, 3, 5), NOT);
        lay(x, 0, 0, 0, 12 * 9, 0, 2 * 81);
        due("19 r 0", x.powers(0, 1, 3, 5), 3);
        shows("19 r 0", x, 5, P - 2, 1, 1);
    }

    private static void powersRefused() {
        FormsOfTwo x = with(of(5, 4, 5), of(1, 1 + P, 3), new int[10], of(1, 2), new int[0]);
        for (int s : NO_SHEETS) {
            due("19 no s", x.powers(s, 1, 1, 5), BAD);
            due("19 no t", x.powers(0, s, 1, 5), BAD);
            due("19 no u", x.powers(0, 1, 1, s), BAD);
        }
        for (int k : of(0, 10, -1, LEAST, MOST)) {
            due("19 no k", x.powers(0, 1, k, 5), BAD);
            due("19 no k, lost", x.powers(8, 1, k, 5), BAD);
        }
        due("19 no finding", x.count(1), 0);
        due("19 s lost, few items", x.powers(8, 4, 2, 5), NULL);
        due("19 t lost, no form", x.powers(2, 8, 9, 5), NULL);
        due("19 count(1)", x.count(1), 1);
        due("19 no form, few items", x.powers(2, 4, 1, 5), NOT);
        due("19 k above the degree and 1, few items", x.powers(0, 3, 4, 5), NOT);
        due("19 count(1)", x.count(1), 1);
        due("19 few items", x.powers(0, 3, 3, 5), INDEX);
        due("19 no items", x.powers(0, 4, 1, 5), INDEX);
        due("19 count(1)", x.count(1), 2);
        due("19 alike modulo P", x.powers(0, 1, 2, 5), NOT);
        due("19 alike modulo P", x.powers(0, 1, 3, 5), NOT);
        lay(x, 4, 1, 1);
        lay(x, 6, 1, 2, 1);
        due("19 one of the alike is enough", x.powers(6, 4, 1, 5), 1);
        due("19 alike though it is such a sum", x.powers(6, 4, 2, 5), NOT);
    }

    private static void build() {
        FormsOfTwo x = with(of(0, 2, -1), of(3, 5, 7), of(4));
        due("20 build", x.build(0, 1, 3, 3, 5), 3);
        shows("20 build", x, 5, 15, 3 * (10 - 7), 3 * (20 + 7), 40 - 7);
        due("20 the first two", x.build(0, 1, 2, 1, 5), 1);
        shows("20 the first two", x, 5, 8, 10);
        due("20 degree 0", x.build(0, 1, 3, 0, 5), 0);
        shows("20 degree 0", x, 5, 15);
        due("20 none", x.build(0, 1, 0, 2, 5), 2);
        shows("20 none", x, 5, 0, 0, 0);
        due("20 itself", x.build(2, 2, 1, 8, 5), 8);
        shows("20 itself", x, 5, 4, 8 * 16, 28 * 64, 56 * 256 % P, Math.floorMod(70 * 1024, P), 56 * 4096 % P,
            28 * 16384 % P, 8 * 65536 % P, 262144 % P);
        x.sheet(6, 0, 12);
        for (int i = 0; i < 12; i++) {
            x.put(6, 0, i, -1);
        }
        due("20 twelve alike ones, into themselves", x.build(6, 6, 12, 1, 6), 1);
        shows("20 twelve alike ones, into themselves", x, 6, P - 12, 12);
        for (int s : NO_SHEETS) {
            due("20 no s", x.build(s, 1, 1, 1, 5), BAD);
            due("20 no t", x.build(0, s, 1, 1, 5), BAD);
            due("20 no u", x.build(0, 1, 1, 1, s), BAD);
        }
        for (int k : of(-1, 13, LEAST, MOST)) {
            due("20 no k", x.build(0, 1, k, 1, 5), BAD);
        }
        for (int n : of(-1, 9, LEAST, MOST)) {
            due("20 no n", x.build(0, 1, 1, n, 5), BAD);
            due("20 no n, lost", x.build(9, 1, 1, n, 5), BAD);
        }
        due("20 s lost", x.build(9, 1, 12, 1, 8), NULL);
        due("20 t lost", x.build(0, 9, 0, 1, 8), NULL);
        due("20 both have fewer", x.build(0, 1, 4, 1, 8), INDEX);
        due("20 s has fewer", x.build(2, 1, 2, 1, 8), INDEX);
        due("20 t has fewer", x.build(0, 2, 2, 1, 8), INDEX);
        due("20 count(1)", x.count(1), 2);
        due("20 nothing made", x.degree(8), NULL);
    }

    private static void rank() {
        FormsOfTwo x = with(of(1, 4, 6, 4, 1), of(1, 0, 0, 0, 1), of(0, 0, 6, 0, 0), new int[4], of(3), new int[11],
            of(0, 1, 0));
        for (int k = 0; k <= 4; k++) {
            due("21 one power", x.rank(0, k), 1);
        }
        due("21 two powers", x.rank(1, 2), 2);
        due("21 k 0", x.rank(1, 0), 1);
        due("21 x^2 y^2", x.rank(2, 2), 3);
        due("21 x^2 y^2", x.rank(2, 1), 2);
        due("21 x^2 y^2", x.rank(2, 3), 2);
        due("21 nought", x.rank(3, 1), 0);
        due("21 degree 0", x.rank(4, 0), 1);
        due("21 x y", x.rank(6, 1), 2);
        due("21 k above", x.rank(4, 1), NOT);
        due("21 k above", x.rank(0, 5), NOT);
        due("21 k far above", x.rank(0, MOST), NOT);
        due("21 no form", x.rank(5, 0), NOT);
        due("21 k below 0", x.rank(0, -1), BAD);
        due("21 k below 0, lost", x.rank(9, LEAST), BAD);
        for (int s : NO_SHEETS) {
            due("21 no sheet", x.rank(s, 0), BAD);
        }
        due("21 lost", x.rank(9, 99), NULL);
        lay(x, 7, 1, 2, 3, 4, 5, 6, 7, 8, 10);
        due("21 degree 8", x.rank(7, 4), 5);
        due("21 degree 8", x.rank(7, 8), 1);
        // the division shows: 1 1 1 is 1, 1/2, 1, of rank 2; 1 2 1 of rank 1
        lay(x, 8, 1, 1, 1);
        due("21 1 1 1", x.rank(8, 1), 2);
        lay(x, 8, 1, 2, 1);
        due("21 1 2 1", x.rank(8, 1), 1);
    }

    private static void leads() {
        FormsOfTwo x = with(of(1, 0), of(1, 2), new int[9], of(3), of(4), new int[10], of(1, 0, 0), of(-1, 0, 0));
        // x becomes a x and b y: a 1 and b 2, any c and d but d = 2 c
        due("22 lines", x.leads(0, 1, 2), 22);
        due("22 lines", x.leads(0, 1, 1), 0);
        due("22 x to itself", x.leads(0, 0, 1), 6);
        due("22 nought", x.leads(2, 2, 1), 48);
        due("22 nought", x.leads(2, 2, 2), countTables(2));
        due("22 degree 0", x.leads(3, 3, 2), countTables(2));
        due("22 degree 0, others", x.leads(3, 4, 2), 0);
        due("22 x^2 to -x^2", x.leads(6, 7, 2), 0);
        due("22 x^2 to x^2", x.leads(6, 6, 1), 12);
        for (int b : of(0, 3, -1, LEAST, MOST)) {
            due("22 no b", x.leads(0, 0, b), BAD);
            due("22 no b, lost", x.leads(9, 0, b), BAD);
        }
        for (int s : NO_SHEETS) {
            due("22 no s", x.leads(s, 0, 1), BAD);
            due("22 no t", x.leads(0, s, 1), BAD);
        }
        due("22 s lost", x.leads(9, 5, 1), NULL);
        due("22 t lost", x.leads(5, 9, 1), NULL);
        due("22 s no form", x.leads(5, 0, 1), NOT);
        due("22 t no form", x.leads(0, 5, 1), NOT);
        due("22 unlike degrees", x.leads(0, 6, 1), NOT);
        due("22 unlike degrees, nought", x.leads(2, 6, 1), NOT);
    }

    private static int countTables(int bound) {
        int tables = 0;
        for (int a = -bound; a <= bound; a++) {
            for (int b = -bound; b <= bound; b++) {
                for (int c = -bound; c <= bound; c++) {
                    for (int d = -bound; d <= bound; d++) {
                        tables += a * d - b * c != 0 ? 1 : 0;
                    }
                }
            }
        }
        return tables;
    }

    private static void lead() {
        FormsOfTwo x = with(of(1, 0), of(1, 2), new int[9], of(3), new int[10], of(1, 0, 0));
        due("23 first", x.lead(0, 1, 2, 0), 3400);
        due("23 second", x.lead(0, 1, 2, 1), 3401);
        due("23 last", x.lead(0, 1, 2, 21), 3444);
        due("23 none", x.lead(0, 1, 2, 22), -1);
        due("23 none", x.lead(0, 1, 1, 0), -1);
        due("23 none", x.lead(0, 1, 2, MOST), -1);
        // -1 -1 -1 0 is the first of all with bound 1, 1 1 1 0 the last
        due("23 first of all", x.lead(2, 2, 1, 0), 1112);
        due("23 last of all", x.lead(2, 2, 1, 47), 3332);
        due("23 none after it", x.lead(2, 2, 1, 48), -1);
        due("23 first of all within 2", x.lead(3, 3, 2, 0), 1);
        int i = 0;
        for (int code = 0; code <= 4444; code++) {
            int a = code / 1000, b = code / 100 % 10, c = code / 10 % 10, d = code % 10;
            if (a < 5 && b < 5 && c < 5 && d < 5 && (a - 2) * (d - 2) != (b - 2) * (c - 2)) {
                if (i % 37 == 0) {
                    due("23 in order", x.lead(3, 3, 2, i), code);
                }
                i++;
            }
        }
        due("23 i below 0", x.lead(0, 1, 2, -1), BAD);
        due("23 i below 0, lost", x.lead(9, 1, 2, LEAST), BAD);
        for (int b : of(0, 3, LEAST, MOST)) {
            due("23 no b", x.lead(0, 1, b, 0), BAD);
        }
        for (int s : NO_SHEETS) {
            due("23 no s", x.lead(s, 0, 1, 0), BAD);
            due("23 no t", x.lead(0, s, 1, 0), BAD);
        }
        due("23 s lost", x.lead(9, 4, 1, 0), NULL);
        due("23 t lost", x.lead(4, 9, 1, 0), NULL);
        due("23 no form", x.lead(4, 0, 1, 0), NOT);
        due("23 no form", x.lead(0, 4, 1, 0), NOT);
        due("23 unlike degrees", x.lead(0, 5, 1, 0), NOT);
    }

    private static void staying() {
        FormsOfTwo x = new FormsOfTwo();
        due("24 d 0", x.staying(5, 0, 0), 1);
        due("24 d 1", x.staying(5, 1, 5), 1);
        due("24 d 1", x.staying(5, 1, 3), 0);
        due("24 d 1, odd", x.staying(5, 1, 4), 0);
        due("24 the square of a square", x.staying(4, 2, 4), 1);
        due("24 x y", x.staying(1, 2, 0), 0);
        due("24 6 of degree 2", x.staying(6, 2, 0), 1);
        due("24 6 of degree 4", x.staying(6, 4, 0), 2);
        due("24 8 of degree 6", x.staying(8, 6, 0), 4);
        due("24 8 and 8, most", x.staying(8, 8, 64), 1);
        due("24 8 and 8, next", x.staying(8, 8, 62), 0);
        for (int n : of(0, 9, -1, LEAST, MOST)) {
            due("24 no n", x.staying(n, 2, 0), BAD);
            due("24 no n", x.staying(n, 0, 0), BAD);
        }
        for (int d : of(-1, 9, LEAST, MOST)) {
            due("24 no d", x.staying(2, d, 0), BAD);
        }
        for (int e : of(-1, 5, LEAST, MOST)) {
            due("24 no e", x.staying(2, 2, e), BAD);
        }
        due("24 no e", x.staying(8, 0, 1), BAD);
        due("24 changes nothing", x.digest(), 17 * 31 * 31);
    }

    private static void count() {
        FormsOfTwo x = new FormsOfTwo();
        for (int s = 0; s < 10; s++) {
            x.sheet(s, s % 3, s + 1);
            due("25 not lost", x.count(0), s + 1);
            due("25 forms", x.count(2), Math.min(s + 1, 9));
        }
        x.sheet(0, 0, 0);
        due("25 no items", x.count(0), 10);
        due("25 no items", x.count(2), 8);
        due("25 before any finding", x.count(1), 0);
        x.sheet(0, 0, -1);
        due("25 SIZE", x.count(1), 5);
        x.copy(1, 0, 2, 0, 1);
        due("25 STORE", x.count(1), 4);
        x.get(1, 0, 0);
        due("25 CAST", x.count(1), 3);
        x.get(1, 1, 2);
        due("25 INDEX", x.count(1), 2);
        x.lose(0);
        x.lose(0);
        due("25 NULL", x.count(1), 1);
        x.degree(10);
        x.put(1, 1, 0, 1);
        x.degree(9);
        due("25 the latest stays", x.count(1), 1);
        for (int what : of(-1, 3, LEAST, MOST)) {
            due("25 no such what", x.count(what), BAD);
        }
    }

    private static void digest() {
        FormsOfTwo x = new FormsOfTwo();
        due("26 empty", x.digest(), 16337);
        x.sheet(0, 2, 10);
        x.sheet(3, 2, 0);
        due("26 no form", x.digest(), (17 * 31 + 2) * 31);
        lay(x, 2, -1, P + 4);
        lay(x, 9, 8);
        long h = 17;
        for (int v : of(4, 2, 2, 1, P - 1, 4, 9, 0, 8)) {
            h = 31 * h + v;
        }
        due("26 forms", x.digest(), h);
        x.get(9, 0, 0);
        due("26 findings are not in it", x.digest(), h);
        FormsOfTwo y = new FormsOfTwo();
        long wide = (17 * 31 + 10) * 31 + 10;
        for (int s = 0; s < 10; s++) {
            y.sheet(s, 2, 9);
            wide = (31 * wide + s) * 31 + 8;
            for (int i = 0; i < 9; i++) {
                y.put(s, 2, i, 10006 - s * i);
                wide = 31 * wide + 10006 - s * i;
            }
        }
        due("26 wraps", y.digest(), wide);
    }

    private static void sheetsMadeAreRowsOfTheirOwn() {
        FormsOfTwo x = with(of(1, 2), of(3, 4));
        x.sheet(5, 0, 12);
        for (int i = 0; i < 12; i++) {
            x.put(5, 0, i, 9);
        }
        due("a byte sheet becomes a form", x.join(0, 1, 5, 0), 1);
        shows("a byte sheet becomes a form", x, 5, 4, 6);
        x.join(0, 1, 6, 0);
        x.put(5, 2, 0, 100);
        shows("rows made are not one", x, 6, 4, 6);
        due("it holds what a byte could not", x.put(5, 2, 0, 100000), 1);
        shows("it holds what a byte could not", x, 5, 100000, 6);
    }

    /** Calls that are all refused for the sheets below. */
    private static void refusalsChangeNothing() {
        FormsOfTwo x = with(of(20000, 2, 3), of(1, 2), new int[10], new int[3]);
        long before = x.digest();
        x.join(0, 1, 0, 0);
        x.join(0, 2, 0, 2);
        x.mix(2, 1, 1, 1, 1, 0);
        x.change(2, 0, 0);
        x.overlap(0, 1, 2, 0);
        x.common(0, 3, 0);
        x.powers(0, 1, 2, 0);
        x.powers(0, 1, 4, 0);
        x.powers(0, 3, 2, 0);
        x.roots(3);
        due("NOT is no finding", x.count(1), 0);
        x.build(0, 1, 3, 2, 0);
        x.powers(0, 1, 3, 0);
        x.join(0, 9, 0, 3);
        x.sheet(0, 2, -1);
        due("the latest finding", x.count(1), 5);
        due("nothing changed", x.digest(), before);
        due("not even by P", x.get(0, 2, 0), 20000);
    }
}
