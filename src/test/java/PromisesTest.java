/** Each promise with ordinary inputs. What is refused is RefusalsTest's, the bounds of the terms TermsTest's. */
public final class PromisesTest {
    private static final Check CHECK = new Check("promises");
    private static final int P = Reckon.P, LEAST = Reckon.LEAST, MOST = Reckon.MOST;
    private static final int NOT = Board.NOT, NULL = Board.NULL;

    public static void main(String[] args) {
        aNewObject();
        sheet();
        lose();
        put();
        get();
        copy();
        term();
        degree();
        value();
        join();
        mix();
        change();
        overlap();
        overlapWhereLettersAreMixed();
        alike();
        roots();
        root();
        common();
        result();
        powers();
        build();
        rank();
        leads();
        lead();
        staying();
        count();
        digest();
        CHECK.end();
    }

    private static void due(String call, long got, long want) {
        CHECK.due(call, got, want);
    }

    private static FormsOfTwo with(int[]... forms) {
        return Board.with(forms);
    }

    private static int[] of(int... items) {
        return items;
    }

    private static void lay(FormsOfTwo x, int s, int... items) {
        Board.lay(x, s, items);
    }

    /** The sheet is an int row of just these items. */
    private static void shows(String what, FormsOfTwo x, int s, int... items) {
        CHECK.shows(what, x, s, 2, items);
    }

    private static int times(int a, int b) {
        return Reckon.times(a, b);
    }

    private static int part(int a, int b) {
        return Reckon.part(a, b);
    }

    private static void aNewObject() {
        FormsOfTwo x = new FormsOfTwo();
        due("1 count(0)", x.count(0), 0);
        due("1 count(1)", x.count(1), 0);
        due("1 count(2)", x.count(2), 0);
        due("1 digest()", x.digest(), 17 * 31 * 31);
        for (int s = 0; s < 10; s++) {
            due("1 lose", x.lose(s), NULL);
            due("1 degree", x.degree(s), NULL);
        }
        x.sheet(0, 0, 1);
        due("1 another object has sheets of its own", new FormsOfTwo().count(0), 0);
        due("1 NONE", FormsOfTwo.NONE, -1);
        due("1 BAD", FormsOfTwo.BAD, -2);
        due("1 NOT", FormsOfTwo.NOT, -3);
    }

    private static void sheet() {
        for (int kind = 0; kind < 3; kind++) {
            FormsOfTwo x = new FormsOfTwo();
            for (int n = 0; n <= 12; n++) {
                due("2 n", x.sheet(9, kind, n), n);
                for (int i = 0; i < n; i++) {
                    due("2 items are 0 at first", x.get(9, kind, i), 0);
                    x.put(9, kind, i, 77);
                }
                due("2 so many items", x.get(9, kind, n), LEAST);
                due("2 so many items", x.count(1), 2);
                due("2 another kind", x.get(9, (kind + 1) % 3, 0), LEAST);
                due("2 another kind", x.count(1), 3);
            }
            due("2 one sheet", x.count(0), 1);
        }
    }

    private static void lose() {
        FormsOfTwo x = new FormsOfTwo();
        for (int n = 0; n <= 12; n++) {
            x.sheet(3, n % 3, n);
            due("3 how many it had", x.lose(3), n);
            due("3 lost", x.count(0), 0);
            due("3 lost already", x.lose(3), NULL);
        }
        lay(x, 3, 5, 6);
        x.lose(3);
        x.sheet(3, 2, 2);
        due("3 items are 0 anew", x.get(3, 2, 1), 0);
    }

    private static void put() {
        FormsOfTwo x = new FormsOfTwo();
        x.sheet(0, 0, 2);
        x.sheet(1, 1, 2);
        x.sheet(2, 2, 2);
        for (int v : of(0, 1, -1, 127, 128, 255, 256, -129, 32767, 32768, 65536, -32769, LEAST, MOST)) {
            due("4 put byte", x.put(0, 0, 1, v), 1);
            due("4 byte", x.get(0, 0, 1), (byte) v);
            due("4 put short", x.put(1, 1, 1, v), 1);
            due("4 short", x.get(1, 1, 1), (short) v);
            due("4 put int", x.put(2, 2, 1, v), 1);
            due("4 int", x.get(2, 2, 1), v);
        }
        due("4 the other item", x.get(0, 0, 0), 0);
    }

    private static void get() {
        FormsOfTwo x = new FormsOfTwo();
        x.sheet(0, 1, 12);
        x.put(0, 1, 11, 40000);
        due("5 item", x.get(0, 1, 11), 40000 - 65536);
        due("5 a put is seen", x.put(0, 1, 11, -40001), 1);
        due("5 a put is seen", x.get(0, 1, 11), 65536 - 40001);
        due("5 no finding", x.count(1), 0);
    }

    private static void copy() {
        FormsOfTwo x = with(of(1, 2, 3, 4, 5), of(0, 0, 0));
        due("6 copy", x.copy(0, 2, 1, 1, 2), 1);
        shows("6 copy", x, 1, 0, 3, 4);
        shows("6 the source stays", x, 0, 1, 2, 3, 4, 5);
        due("6 onwards in itself", x.copy(0, 0, 0, 1, 4), 1);
        shows("6 onwards in itself", x, 0, 1, 1, 2, 3, 4);
        due("6 back in itself", x.copy(0, 2, 0, 0, 3), 1);
        shows("6 back in itself", x, 0, 2, 3, 4, 3, 4);
        due("6 none, at the end", x.copy(0, 5, 1, 3, 0), 1);
        due("6 all", x.copy(1, 0, 0, 2, 3), 1);
        shows("6 all", x, 0, 2, 3, 0, 3, 4);
        x.put(1, 2, 0, 9);
        shows("6 rows are not one", x, 0, 2, 3, 0, 3, 4);
    }

    private static void term() {
        FormsOfTwo x = with(of(-1, P, MOST, LEAST), of(1, 2, 3, 4, 5, 6, 7, 8, 9));
        due("7 below 0", x.term(0, 0), P - 1);
        due("7 P", x.term(0, 1), 0);
        due("7 most", x.term(0, 2), 2147483647L % P);
        due("7 least", x.term(0, 3), P - 2147483648L % P);
        due("7 beyond", x.term(0, 4), 0);
        due("7 beyond", x.term(0, 8), 0);
        due("7 the last of all", x.term(1, 8), 9);
        x.sheet(4, 0, 2);
        x.put(4, 0, 1, 200);
        due("7 bytes", x.term(4, 1), P - 56);
        due("7 items of a longer row are not seen", x.term(4, 2), 0);
        lay(x, 5, 1, 2, 3);
        x.sheet(5, 2, 1);
        due("7 nor those that were", x.term(5, 2), 0);
    }

    private static void degree() {
        FormsOfTwo x = new FormsOfTwo();
        for (int n = 0; n <= 12; n++) {
            x.sheet(9, n % 3, n);
            due("8 degree", x.degree(9), n >= 1 && n <= 9 ? n - 1 : NOT);
        }
    }

    private static void value() {
        FormsOfTwo x = with(of(2, -3, 5), of(7), of(1, 0, 0, 0, 0, 0, 0, 0, 1));
        due("9 value", x.value(0, 3, 4), 2 * 9 - 3 * 12 + 5 * 16);
        due("9 below 0", x.value(0, 1, 1 - P), 4);
        due("9 at 0 0", x.value(0, 0, 0), 0);
        due("9 at 1 0", x.value(0, 1, 0), 2);
        due("9 at 0 1", x.value(0, 0, 1), 5);
        due("9 degree 0 at 0 0", x.value(1, 0, 0), 7);
        due("9 degree 8", x.value(2, 2, 3), (256 + 6561) % P);
        int least = Math.floorMod(LEAST, P);
        due("9 least", x.value(0, LEAST, 1), Math.floorMod(2 * times(least, least) - 3 * least + 5, P));
        due("9 most", x.value(2, 0, MOST), java.math.BigInteger.valueOf(MOST).pow(8).mod(
            java.math.BigInteger.valueOf(P)).intValue());
    }

    private static void join() {
        FormsOfTwo x = with(of(1, 2, 3), of(10, P - 2, -7), of(5, -1), of(1, 1, 1, 1, 1, 1, 1));
        due("10 together", x.join(0, 1, 4, 0), 2);
        shows("10 together", x, 4, 11, 0, P - 4);
        due("10 less", x.join(0, 1, 4, 1), 2);
        shows("10 less", x, 4, P - 9, 4, 10);
        due("10 product", x.join(0, 2, 4, 2), 3);
        shows("10 product", x, 4, 5, 9, 13, P - 3);
        due("10 times a 0", x.join(0, 2, 4, 3), 2);
        shows("10 times a 0", x, 4, 5, 10, 15);
        due("10 times a 0 of a higher one", x.join(2, 1, 4, 3), 1);
        shows("10 times a 0 of a higher one", x, 4, 50, P - 10);
        due("10 product of degree 8", x.join(0, 3, 4, 2), 8);
        shows("10 product of degree 8", x, 4, 1, 3, 6, 6, 6, 6, 6, 5, 3);
        due("10 into itself", x.join(0, 0, 0, 2), 4);
        shows("10 into itself", x, 0, 1, 4, 10, 12, 9);
        due("10 less itself", x.join(0, 0, 0, 1), 4);
        shows("10 less itself", x, 0, 0, 0, 0, 0, 0);
        due("10 into t", x.join(1, 2, 2, 2), 3);
        shows("10 into t", x, 2, 50, P - 20, Math.floorMod(-35 + 2, P), 7);
        lay(x, 5, P - 1, 1);
        due("10 great numbers", x.join(5, 5, 5, 2), 2);
        shows("10 great numbers", x, 5, 1, P - 2, 1);
    }

    private static void mix() {
        FormsOfTwo x = with(of(1, 2, 3), of(9), of(0, 0, 0, 0, 0, 0, 0, 0, 1), of(1, 0, 0, 0));
        // (2x + 3y)^2 + 2 (2x + 3y)(5x - y) + 3 (5x - y)^2
        due("11 bottom", x.mix(0, 2, 3, 5, -1, 5), P - 17);
        shows("11 mixed", x, 5, 4 + 20 + 75, 12 + 2 * 13 - 30, 9 - 6 + 3);
        due("11 as it is", x.mix(0, 1, 0, 0, 1, 5), 1);
        shows("11 as it is", x, 5, 1, 2, 3);
        due("11 letters changed about", x.mix(0, 0, 1, 1, 0, 5), P - 1);
        shows("11 letters changed about", x, 5, 3, 2, 1);
        due("11 degree 0", x.mix(1, 4, 0, 0, 5, 5), 20);
        shows("11 degree 0", x, 5, 9);
        due("11 all 0", x.mix(0, 0, 0, 0, 0, 5), 0);
        shows("11 all 0", x, 5, 0, 0, 0);
        due("11 y to the 8", x.mix(2, 3, 4, 1, 1, 5), P - 1);
        shows("11 y to the 8", x, 5, 1, 8, 28, 56, 70, 56, 28, 8, 1);
        due("11 into itself", x.mix(3, 1, 2, 0, 1, 3), 1);
        shows("11 into itself", x, 3, 1, 6, 12, 8);
        int most = Math.floorMod(MOST, P);
        int least = Math.floorMod(LEAST, P);
        due("11 wide numbers", x.mix(0, MOST, LEAST, LEAST, MOST, 5),
            Math.floorMod(times(most, most) - times(least, least), P));
        due("11 wide numbers", x.term(5, 0),
            (times(most, most) + 2 * times(most, least) + 3 * times(least, least)) % P);
    }

    private static void change() {
        FormsOfTwo x = with(of(1, 2, 3, 4), of(1, 1, 1, 1, 1, 1, 1, 1, 1));
        due("12 by x", x.change(0, 0, 4), 2);
        shows("12 by x", x, 4, 3, 4, 3);
        due("12 by y", x.change(0, 1, 4), 2);
        shows("12 by y", x, 4, 2, 6, 12);
        due("12 degree 8 by x", x.change(1, 0, 4), 7);
        shows("12 degree 8 by x", x, 4, 8, 7, 6, 5, 4, 3, 2, 1);
        due("12 degree 8 by y, into itself", x.change(1, 1, 1), 7);
        shows("12 degree 8 by y, into itself", x, 1, 1, 2, 3, 4, 5, 6, 7, 8);
        lay(x, 5, 9, 4);
        due("12 to degree 0", x.change(5, 1, 5), 0);
        shows("12 to degree 0", x, 5, 4);
    }

    private static void overlap() {
        FormsOfTwo x = with(of(1, 0, 0, 0), of(0, 0, 0, 0, 1), of(3, 5, 7), of(2, -1, 4));
        due("13 1 of x^3 and y^4", x.overlap(0, 1, 1, 5), 5);
        shows("13 1 of x^3 and y^4", x, 5, 0, 0, 0, 1, 0, 0);
        due("13 1 of y^4 and x^3", x.overlap(1, 0, 1, 5), 5);
        shows("13 1 of y^4 and x^3", x, 5, 0, 0, 0, P - 1, 0, 0);
        due("13 3 of x^3 and y^4", x.overlap(0, 1, 3, 5), 1);
        shows("13 3 of x^3 and y^4", x, 5, 0, 1);
        due("13 0 is the product", x.overlap(2, 3, 0, 5), 4);
        shows("13 0 is the product", x, 5, 6, 7, 21, 13, 28);
        // (f_x g_y - f_y g_x) / 4
        due("13 1", x.overlap(2, 3, 1, 5), 2);
        shows("13 1", x, 5, part(-26, 4), part(-8, 4), part(54, 4));
        // (f_xx g_yy - 2 f_xy g_xy + f_yy g_xx) / 4
        due("13 2", x.overlap(2, 3, 2, 5), 0);
        shows("13 2", x, 5, part(6 * 8 - 2 * 5 * -1 + 14 * 4, 4));
        lay(x, 6, 1, 0, 0, 0, 0, 0, 0, 0, 2);
        due("13 8", x.overlap(6, 6, 8, 6), 0);
        shows("13 8 into itself", x, 6, 4);
        lay(x, 7, 0, 0, 0, 0, 1, 0, 0, 0, 0);
        due("13 4 of degree 8", x.overlap(7, 7, 4, 5), 8);
        due("13 4 of degree 8 has one term", x.term(5, 3), 0);
        int sum = 0;
        int[] choices = {1, 4, 6, 4, 1};
        for (int i = 0; i <= 4; i++) {
            int left = down(4, 4 - i) * down(4, i);
            sum = Math.floorMod(sum + (i % 2 == 0 ? 1 : -1) * times(choices[i], times(left, left)), P);
        }
        due("13 4 of degree 8", x.term(5, 4), part(sum, times(1680, 1680)));
        lay(x, 8, 6);
        due("13 degree 0", x.overlap(8, 8, 0, 8), 0);
        shows("13 degree 0", x, 8, 36);
    }

    /** The overlap of two that are mixed is their overlap mixed, times the bottom k times. */
    private static void overlapWhereLettersAreMixed() {
        for (int k = 0; k <= 5; k++) {
            FormsOfTwo x = with(of(3, -1, 4, 1, -5, 9), of(-2, 6, -5, 3, 5, -8));
            due("13 where letters are mixed: bottom", x.mix(0, 2, -3, 5, -1, 2), 13);
            due("13 where letters are mixed: bottom", x.mix(1, 2, -3, 5, -1, 3), 13);
            int degree = 10 - 2 * k;
            due("13 where letters are mixed", x.overlap(0, 1, k, 4), degree <= 8 ? degree : NOT);
            if (degree <= 8) {
                x.mix(4, 2, -3, 5, -1, 4);
                due("13 where letters are mixed", x.overlap(2, 3, k, 5), degree);
                int power = 1;
                for (int j = 0; j < k; j++) {
                    power = times(power, 13);
                }
                due("13 where letters are mixed", x.alike(4, 5), power);
            }
        }
    }

    private static int down(int n, int times) {
        int answer = 1;
        for (int i = 0; i < times; i++) {
            answer *= n - i;
        }
        return answer;
    }

    private static void alike() {
        FormsOfTwo x = with(of(0, 2, -4), of(0, -3, 6), of(0, 2, 4), new int[3], new int[2], of(0, 2),
            of(P, 2 + P, -4 - P), of(1, 2, -4));
        due("14 number", x.alike(0, 1), part(-3, 2));
        due("14 number back", x.alike(1, 0), part(2, -3));
        due("14 itself", x.alike(0, 0), 1);
        due("14 itself modulo P", x.alike(0, 6), 1);
        due("14 not alike", x.alike(0, 2), 0);
        due("14 not alike at first", x.alike(0, 7), 0);
        due("14 not alike at first", x.alike(7, 0), 0);
        due("14 both nought", x.alike(3, 3), 1);
        due("14 s nought", x.alike(3, 0), 0);
        due("14 t nought", x.alike(0, 3), 0);
        due("14 unlike degrees", x.alike(0, 5), 0);
        due("14 nought of unlike degrees", x.alike(3, 4), 0);
    }

    private static void roots() {
        FormsOfTwo x = with(of(0, 0, 1, 0, 0), of(5), of(1, 0, 1), of(1, -2, 1), of(0, 3), of(3, 0));
        due("15 x^2 y^2", x.roots(0), 2);
        due("15 degree 0", x.roots(1), 0);
        due("15 x^2 and y^2", x.roots(2), 0);
        due("15 one root twice", x.roots(3), 1);
        due("15 y", x.roots(4), 1);
        due("15 x", x.roots(5), 1);
        // y (x - y) .. has every place 0 : 1, 1 : 0, and more
        FormsOfTwo y = with(of(0, 1), of(1, 0));
        for (int v = 1; v <= 6; v++) {
            lay(y, 2, v, -1);
            y.join(0, 2, 0, 2);
        }
        y.join(0, 1, 0, 2);
        due("15 eight roots", y.roots(0), 8);
        for (int i = 0; i < 7; i++) {
            due("16 root", y.root(0, i), i);
        }
        due("16 the last", y.root(0, 7), P);
        due("16 no ninth", y.root(0, 8), -1);
    }

    private static void root() {
        FormsOfTwo x = with(of(0, 0, 1, 0, 0), of(5), of(-1, 1), of(1, 1), of(0, 3), of(3, 0));
        due("16 first", x.root(0, 0), 0);
        due("16 0 : 1", x.root(0, 1), P);
        due("16 none", x.root(0, 2), -1);
        due("16 none", x.root(0, MOST), -1);
        due("16 degree 0", x.root(1, 0), -1);
        due("16 y", x.root(4, 0), 0);
        due("16 y", x.root(4, 1), -1);
        due("16 x", x.root(5, 0), P);
        due("16 x", x.root(5, 1), -1);
        due("16 1 : 1", x.root(2, 0), 1);
        due("16 1 : -1", x.root(3, 0), P - 1);
    }

    private static void common() {
        FormsOfTwo x = with(of(0, 0, 2, 2, 0), of(0, 0, 0, 3, 0), of(7), of(2, 4, 2), of(3, 3));
        // 2 y^2 x (x + y) and 3 x y^3
        due("17 x y^2", x.common(0, 1, 7), 3);
        shows("17 x y^2", x, 7, 0, 0, 1, 0);
        due("17 back", x.common(1, 0, 7), 3);
        shows("17 back", x, 7, 0, 0, 1, 0);
        due("17 degree 0", x.common(0, 2, 7), 0);
        shows("17 degree 0", x, 7, 1);
        due("17 both degree 0", x.common(2, 2, 7), 0);
        shows("17 both degree 0", x, 7, 1);
        due("17 x and y", x.common(3, 4, 7), 1);
        shows("17 x and y", x, 7, 1, 1);
        due("17 with itself, into itself", x.common(3, 3, 3), 2);
        shows("17 with itself, into itself", x, 3, 1, 2, 1);
        due("17 with its product", x.join(3, 0, 7, 2), 6);
        due("17 with its product", x.common(7, 0, 8), 4);
        shows("17 with its product", x, 8, 0, 0, 1, 1, 0);
        lay(x, 0, 1, 0, 0, 0, 0, 0, 0, 0, -1);
        lay(x, 1, 1, 0, 0, 0, 0, 0, -1);
        due("17 x^8 less y^8, x^6 less y^6", x.common(0, 1, 2), 2);
        shows("17 x^8 less y^8, x^6 less y^6", x, 2, 1, 0, P - 1);
    }

    private static void result() {
        FormsOfTwo x = with(of(2, 3), of(5, 7), of(1, 4, -2), new int[3],
            of(1, 0, 0, 0, 0, 0, 0, 0, 0), of(0, 0, 0, 0, 0, 0, 0, 0, 3), of(1, 0, 0, 0), of(0, 0, 0, 2));
        due("18 lines", x.result(0, 1), P - 1);
        due("18 lines back", x.result(1, 0), 1);
        // rows 2 3 0, 0 2 3, 1 4 -2
        due("18 a line and a square", x.result(0, 2), P - 23);
        due("18 a square and a line", x.result(2, 0), P - 23);
        due("18 nought", x.result(0, 3), 0);
        due("18 x^8 and 3 y^8", x.result(4, 5), 6561);
        due("18 y^8 and x^8", x.result(5, 4), 6561);
        due("18 itself", x.result(2, 2), 0);
        due("18 odd degrees", x.result(6, 7), 8);
        due("18 odd degrees back", x.result(7, 6), P - 8);
    }

    private static void powers() {
        // (x + y)^2 is 1 2 1, (x - y)^2 is 1 -2 1
        FormsOfTwo x = with(of(5, 4, 5), of(1, -1, 0), of(0, 2), of(7), new int[9]);
        due("19 two", x.powers(0, 1, 2, 5), 2);
        shows("19 two", x, 5, part(7, 2), part(3, 2));
        due("19 three", x.powers(0, 1, 3, 5), 3);
        shows("19 three", x, 5, part(7, 2), part(3, 2), 0);
        due("19 one is not enough", x.powers(0, 1, 1, 5), NOT);
        due("19 x^2 and (x and 2 y)^2 alone", x.powers(0, 2, 2, 5), NOT);
        due("19 degree 0", x.powers(3, 1, 1, 5), 1);
        shows("19 degree 0", x, 5, 7);
        lay(x, 7, 1, 2, 3, 4, 5, 6, 7, 8, 9, 9, 9, 9);
        due("19 nought", x.powers(4, 7, 9, 5), 9);
        shows("19 nought", x, 5, 0, 0, 0, 0, 0, 0, 0, 0, 0);
        lay(x, 6, 3, 1, 4, 1, 5, 9, 2, 6, 5, 3, 5);
        x.build(7, 6, 9, 8, 8);
        due("19 nine, into s", x.powers(8, 7, 9, 8), 9);
        shows("19 nine, into s", x, 8, 3, 1, 4, 1, 5, 9, 2, 6, 5);
        due("19 into t", x.powers(0, 1, 2, 1), 2);
        shows("19 into t", x, 1, part(7, 2), part(3, 2));
        x.sheet(9, 0, 11);
        x.put(9, 0, 0, 257);
        x.put(9, 0, 1, 255);
        due("19 bytes", x.powers(0, 9, 2, 9), 2);
        shows("19 bytes", x, 9, part(7, 2), part(3, 2));
        lay(x, 1, 1 + P, -1 - P);
        due("19 modulo P", x.powers(0, 1, 2, 5), 2);
        shows("19 modulo P", x, 5, part(7, 2), part(3, 2));
        lay(x, 0, 2, 0, 0, 0, 54);
        lay(x, 1, 0, 3, -3);
        due("19 the numbers beyond the first three", x.powers(0, 1, 3, 5), NOT);
        lay(x, 0, 0, 0, 12 * 9, 0, 2 * 81);
        due("19 r 0", x.powers(0, 1, 3, 5), 3);
        shows("19 r 0", x, 5, P - 2, 1, 1);
        lay(x, 0, 1, 2, 1);
        lay(x, 1, 1, 1);
        due("19 one of the alike is enough", x.powers(0, 1, 1, 5), 1);
        due("19 alike, though it is such a sum", x.powers(0, 1, 2, 5), NOT);
    }

    private static void build() {
        FormsOfTwo x = with(of(0, 2, -1), of(3, 5, 7), of(4));
        due("20 build", x.build(0, 1, 3, 3, 5), 3);
        shows("20 build", x, 5, 15, 3 * (10 - 7), 3 * (20 + 7), 40 - 7);
        due("20 the first two", x.build(0, 1, 2, 1, 5), 1);
        shows("20 the first two", x, 5, 8, 10);
        due("20 degree 0", x.build(0, 1, 3, 0, 5), 0);
        shows("20 degree 0", x, 5, 15);
        due("20 none", x.build(0, 1, 0, 2, 5), 2);
        shows("20 none", x, 5, 0, 0, 0);
        due("20 itself", x.build(2, 2, 1, 8, 5), 8);
        shows("20 itself", x, 5, 4, 8 * 16, 28 * 64, 56 * 256 % P, Math.floorMod(70 * 1024, P), 56 * 4096 % P,
            28 * 16384 % P, 8 * 65536 % P, 262144 % P);
        x.sheet(6, 0, 12);
        for (int i = 0; i < 12; i++) {
            x.put(6, 0, i, -1);
        }
        due("20 twelve alike ones, into themselves", x.build(6, 6, 12, 1, 6), 1);
        shows("20 twelve alike ones, into themselves", x, 6, P - 12, 12);
    }

    private static void rank() {
        FormsOfTwo x = with(of(1, 4, 6, 4, 1), of(1, 0, 0, 0, 1), of(0, 0, 6, 0, 0), new int[4], of(3), of(0, 1, 0));
        for (int k = 0; k <= 4; k++) {
            due("21 one power", x.rank(0, k), 1);
        }
        due("21 two powers", x.rank(1, 2), 2);
        due("21 k 0", x.rank(1, 0), 1);
        due("21 x^2 y^2", x.rank(2, 2), 3);
        due("21 x^2 y^2", x.rank(2, 1), 2);
        due("21 x^2 y^2", x.rank(2, 3), 2);
        due("21 nought", x.rank(3, 1), 0);
        due("21 degree 0", x.rank(4, 0), 1);
        due("21 x y", x.rank(5, 1), 2);
        lay(x, 7, 1, 2, 3, 4, 5, 6, 7, 8, 10);
        due("21 degree 8", x.rank(7, 4), 5);
        due("21 degree 8", x.rank(7, 8), 1);
        // the division shows: 1 1 1 is 1, 1/2, 1, of rank 2; 1 2 1 of rank 1
        lay(x, 8, 1, 1, 1);
        due("21 1 1 1", x.rank(8, 1), 2);
        lay(x, 8, 1, 2, 1);
        due("21 1 2 1", x.rank(8, 1), 1);
    }

    private static void leads() {
        FormsOfTwo x = with(of(1, 0), of(1, 2), new int[9], of(3), of(4), of(1, 0, 0), of(-1, 0, 0));
        // x becomes a x and b y: a 1 and b 2, any c and d but d = 2 c
        due("22 lines", x.leads(0, 1, 2), 22);
        due("22 lines", x.leads(0, 1, 1), 0);
        due("22 x to itself", x.leads(0, 0, 1), 6);
        due("22 nought", x.leads(2, 2, 1), 48);
        due("22 nought", x.leads(2, 2, 2), countTables(2));
        due("22 degree 0", x.leads(3, 3, 2), countTables(2));
        due("22 degree 0, others", x.leads(3, 4, 2), 0);
        due("22 x^2 to -x^2", x.leads(5, 6, 2), 0);
        due("22 x^2 to x^2", x.leads(5, 5, 1), 12);
    }

    private static int countTables(int bound) {
        int tables = 0;
        for (int a = -bound; a <= bound; a++) {
            for (int b = -bound; b <= bound; b++) {
                for (int c = -bound; c <= bound; c++) {
                    for (int d = -bound; d <= bound; d++) {
                        tables += a * d - b * c != 0 ? 1 : 0;
                    }
                }
            }
        }
        return tables;
    }

    private static void lead() {
        FormsOfTwo x = with(of(1, 0), of(1, 2), new int[9], of(3));
        due("23 first", x.lead(0, 1, 2, 0), 3400);
        due("23 second", x.lead(0, 1, 2, 1), 3401);
        due("23 last", x.lead(0, 1, 2, 21), 3444);
        due("23 none", x.lead(0, 1, 2, 22), -1);
        due("23 none", x.lead(0, 1, 1, 0), -1);
        due("23 none", x.lead(0, 1, 2, MOST), -1);
        // -1 -1 -1 0 is the first of all with bound 1, 1 1 1 0 the last
        due("23 first of all", x.lead(2, 2, 1, 0), 1112);
        due("23 last of all", x.lead(2, 2, 1, 47), 3332);
        due("23 none after it", x.lead(2, 2, 1, 48), -1);
        due("23 first of all within 2", x.lead(3, 3, 2, 0), 1);
    }

    private static void staying() {
        FormsOfTwo x = new FormsOfTwo();
        due("24 d 0", x.staying(5, 0, 0), 1);
        due("24 d 1", x.staying(5, 1, 5), 1);
        due("24 d 1", x.staying(5, 1, 3), 0);
        due("24 d 1, odd", x.staying(5, 1, 4), 0);
        due("24 the square of a square", x.staying(4, 2, 4), 1);
        due("24 x y", x.staying(1, 2, 0), 0);
        due("24 6 of degree 2", x.staying(6, 2, 0), 1);
        due("24 6 of degree 4", x.staying(6, 4, 0), 2);
        due("24 8 of degree 6", x.staying(8, 6, 0), 4);
        due("24 8 and 8, most", x.staying(8, 8, 64), 1);
        due("24 8 and 8, next", x.staying(8, 8, 62), 0);
        due("24 changes nothing", x.digest(), 17 * 31 * 31);
    }

    private static void count() {
        FormsOfTwo x = new FormsOfTwo();
        for (int s = 0; s < 10; s++) {
            x.sheet(s, s % 3, s + 1);
            due("25 not lost", x.count(0), s + 1);
            due("25 forms", x.count(2), Math.min(s + 1, 9));
        }
        x.sheet(0, 0, 0);
        due("25 no items", x.count(0), 10);
        due("25 no items", x.count(2), 8);
        due("25 before any finding", x.count(1), 0);
        x.sheet(0, 0, -1);
        due("25 SIZE", x.count(1), 5);
        x.copy(1, 0, 2, 0, 1);
        due("25 STORE", x.count(1), 4);
        x.get(1, 0, 0);
        due("25 CAST", x.count(1), 3);
        x.get(1, 1, 2);
        due("25 INDEX", x.count(1), 2);
        x.lose(0);
        x.lose(0);
        due("25 NULL", x.count(1), 1);
        x.degree(10);
        x.put(1, 1, 0, 1);
        x.degree(9);
        due("25 the latest stays", x.count(1), 1);
    }

    private static void digest() {
        FormsOfTwo x = new FormsOfTwo();
        due("26 empty", x.digest(), 16337);
        x.sheet(0, 2, 10);
        x.sheet(3, 2, 0);
        due("26 no form", x.digest(), (17 * 31 + 2) * 31);
        lay(x, 2, -1, P + 4);
        lay(x, 9, 8);
        long h = 17;
        for (int v : of(4, 2, 2, 1, P - 1, 4, 9, 0, 8)) {
            h = 31 * h + v;
        }
        due("26 forms", x.digest(), h);
        x.get(9, 0, 0);
        due("26 findings are not in it", x.digest(), h);
    }
}
