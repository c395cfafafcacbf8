/**
 * Call by call: the last argument that is allowed and the first that is not, each refusal, the first of two that
 * fit at once, and that a refused call changes nothing (a finding nothing but count(1)).
 */
public final class RefusalsTest {
    private static final Check CHECK = new Check("refusals");
    private static final int LEAST = Reckon.LEAST, MOST = Reckon.MOST;
    private static final int NONE = -1, BAD = Board.BAD, NOT = Board.NOT, NULL = Board.NULL, INDEX = Board.INDEX,
        CAST = Board.CAST, STORE = Board.STORE, SIZE = Board.SIZE;
    private static final int TEN = Board.TEN, LINE = Board.LINE, SQUARE = Board.SQUARE, LONGEST = Board.LONGEST,
        EMPTY = Board.EMPTY, NOUGHT = Board.NOUGHT, SHORTS = Board.SHORTS, NUMBER = Board.NUMBER, FULL = Board.FULL,
        LOST = Board.LOST;
    private static final int[] NO_FORMS = {EMPTY, TEN, FULL};

    public static void main(String[] args) {
        sheet();
        lose();
        put();
        get();
        copy();
        copyOfNoSuchItems();
        term();
        degree();
        value();
        join();
        mix();
        change();
        overlap();
        alike();
        roots();
        root();
        common();
        result();
        powers();
        powersThatAreNot();
        build();
        rank();
        leads();
        lead();
        staying();
        count();
        digest();
        CHECK.end();
    }

    // ---- what a test of one call is

    private static FormsOfTwo asked(int finding, long due, String call, int... with) {
        FormsOfTwo x = Board.full(finding);
        CHECK.due(Board.told(call, with), Board.answer(x, call, with), due);
        return x;
    }

    private static void refused(int due, String call, int... with) {
        String told = Board.told(call, with) + " is refused";
        long digest = Board.full(0).digest();
        for (int before : Board.of(0, 1, 5)) {
            FormsOfTwo x = asked(before, call.equals("get") ? LEAST : due, call, with);
            CHECK.due(told + ": count(1)", x.count(1), due <= NULL ? -10 - due : before);
            CHECK.due(told + ": count(0)", x.count(0), 9);
            CHECK.due(told + ": count(2)", x.count(2), 6);
            CHECK.due(told + ": digest()", x.digest(), digest);
            Board.asItWas(CHECK, told, x, -1);
        }
    }

    /** The call is answered and changes nothing. */
    private static void reads(long due, String call, int... with) {
        FormsOfTwo x = asked(5, due, call, with);
        CHECK.due(Board.told(call, with) + ": count(1)", x.count(1), 5);
        Board.asItWas(CHECK, Board.told(call, with), x, -1);
    }

    /** The call is answered and changes sheet u alone. */
    private static void makes(int u, long due, String call, int... with) {
        FormsOfTwo x = asked(5, due, call, with);
        CHECK.due(Board.told(call, with) + ": count(1)", x.count(1), 5);
        Board.asItWas(CHECK, Board.told(call, with), x, u);
    }

    private static int[] instead(int place, int v, int... with) {
        int[] other = with.clone();
        other[place] = v;
        return other;
    }

    /** Each of these numbers at the place is refused. */
    private static void each(int due, int place, int[] numbers, String call, int... with) {
        for (int v : numbers) {
            refused(due, call, instead(place, v, with));
        }
    }

    /** A sheet that is asked: 0 and 9 are allowed (told by the same answer there), -1 and 10 are not; LOST is NULL. */
    private static void asksSheet(int place, String call, int... with) {
        each(BAD, place, Board.of(-1, 10, LEAST, MOST), call, with);
        refused(NULL, call, instead(place, LOST, with));
        long due = Board.answer(Board.full(0), call, with);
        for (int s : Board.of(0, 9)) {
            FormsOfTwo x = Board.full(5);
            Board.layAgain(x, with[place], s);
            int[] there = instead(place, s, with);
            CHECK.due(Board.told(call, there), Board.answer(x, call, there), due);
            CHECK.due(Board.told(call, there) + ": count(1)", x.count(1), 5);
        }
    }

    /** A sheet that is asked and must be a form. */
    private static void asksForm(int place, String call, int... with) {
        asksSheet(place, call, with);
        each(NOT, place, NO_FORMS, call, with);
    }

    /** Two that are asked and must be forms: no sheet before NULL and NOT of the other, NULL before NOT of the other. */
    private static void asksForms(int place, int other, String call, int... with) {
        asksForm(place, call, with);
        asksForm(other, call, with);
        for (int[] places : new int[][] {{place, other}, {other, place}}) {
            each(BAD, places[0], Board.of(-1, 10), call, instead(places[1], LOST, with));
            refused(NULL, call, instead(places[0], LOST, instead(places[1], LOST, with)));
            for (int noForm : NO_FORMS) {
                int[] there = instead(places[1], noForm, with);
                each(BAD, places[0], Board.of(-1, 10), call, there);
                refused(NULL, call, instead(places[0], LOST, there));
            }
        }
    }

    /** A sheet that becomes something: the same, wherever it is; it may be LOST before. */
    private static void makesSheet(int place, String call, int... with) {
        each(BAD, place, Board.of(-1, 10, LEAST, MOST), call, with);
        FormsOfTwo y = Board.full(5);
        long due = Board.answer(y, call, with);
        for (int u = 0; u < 10; u++) {
            int[] there = instead(place, u, with);
            FormsOfTwo x = asked(5, due, call, there);
            for (int i = 0; i <= 8; i++) {
                CHECK.due(Board.told(call, there) + ": number " + i, x.term(u, i), y.term(with[place], i));
            }
            CHECK.due(Board.told(call, there) + ": count(1)", x.count(1), 5);
            Board.asItWas(CHECK, Board.told(call, there), x, u);
        }
    }

    // ---- sheets

    private static void sheet() {
        each(BAD, 0, Board.of(-1, 10, LEAST, MOST), "sheet", 1, 2, 3);
        for (int s = 0; s < 10; s++) {
            makes(s, 3, "sheet", s, 2, 3);
        }
        each(BAD, 1, Board.of(-1, 3, LEAST, MOST), "sheet", 1, 2, 3);
        for (int kind = 0; kind <= 2; kind++) {
            makes(1, 0, "sheet", 1, kind, 0);
            makes(1, 12, "sheet", 1, kind, 12);
            each(BAD, 2, Board.of(13, MOST), "sheet", 1, kind, 3);
            each(SIZE, 2, Board.of(-1, LEAST), "sheet", 1, kind, 3);
        }
        refused(SIZE, "sheet", LOST, 0, -1);
        // no sheet, or no kind, before SIZE
        each(BAD, 0, Board.of(-1, 10), "sheet", 1, 0, -1);
        each(BAD, 1, Board.of(-1, 3), "sheet", 1, 0, -1);
    }

    private static void lose() {
        asksSheet(0, "lose", SHORTS);
        makes(EMPTY, 0, "lose", EMPTY);
        makes(FULL, 12, "lose", FULL);
        makes(NUMBER, 1, "lose", NUMBER);
    }

    private static void put() {
        asksSheet(0, "put", SHORTS, 1, 0, 7);
        each(BAD, 1, Board.of(-1, 3, LEAST, MOST), "put", SHORTS, 1, 0, 7);
        each(CAST, 1, Board.of(0, 2), "put", SHORTS, 1, 0, 7);
        each(CAST, 1, Board.of(1, 2), "put", FULL, 0, 0, 7);
        each(CAST, 1, Board.of(0, 1), "put", SQUARE, 2, 0, 7);
        makes(SHORTS, 1, "put", SHORTS, 1, 0, 7);
        makes(SHORTS, 1, "put", SHORTS, 1, 2, 7);
        each(INDEX, 2, Board.of(-1, 3, LEAST, MOST), "put", SHORTS, 1, 0, 7);
        makes(FULL, 1, "put", FULL, 0, 11, 7);
        each(INDEX, 2, Board.of(-1, 12, LEAST, MOST), "put", FULL, 0, 0, 7);
        each(INDEX, 2, Board.of(-1, 0, 1), "put", EMPTY, 2, 0, 7);
        for (int kind = 0; kind <= 2; kind++) {
            refused(NULL, "put", LOST, kind, 0, 7);
        }
        // no kind before NULL, CAST, INDEX; NULL before INDEX; CAST before INDEX
        each(BAD, 1, Board.of(-1, 3), "put", LOST, 1, 0, 7);
        each(BAD, 1, Board.of(-1, 3), "put", SHORTS, 1, 3, 7);
        each(BAD, 0, Board.of(-1, 10), "put", SHORTS, 2, 3, 7);
        each(NULL, 2, Board.of(-1, 12), "put", LOST, 1, 0, 7);
        each(CAST, 2, Board.of(-1, 3), "put", SHORTS, 2, 0, 7);
        refused(CAST, "put", EMPTY, 0, 0, 7);
    }

    private static void get() {
        asksSheet(0, "get", SHORTS, 1, 2);
        each(BAD, 1, Board.of(-1, 3, LEAST, MOST), "get", SHORTS, 1, 0);
        each(CAST, 1, Board.of(0, 2), "get", SHORTS, 1, 0);
        each(CAST, 1, Board.of(1, 2), "get", FULL, 0, 0);
        each(CAST, 1, Board.of(0, 1), "get", SQUARE, 2, 0);
        reads(1, "get", SHORTS, 1, 0);
        reads(300, "get", SHORTS, 1, 2);
        reads(20001, "get", SQUARE, 2, 0);
        each(INDEX, 2, Board.of(-1, 3, LEAST, MOST), "get", SHORTS, 1, 0);
        reads(-6, "get", FULL, 0, 0);
        reads(5, "get", FULL, 0, 11);
        each(INDEX, 2, Board.of(-1, 12, LEAST, MOST), "get", FULL, 0, 0);
        each(INDEX, 2, Board.of(-1, 0, 1), "get", EMPTY, 2, 0);
        for (int kind = 0; kind <= 2; kind++) {
            refused(NULL, "get", LOST, kind, 0);
        }
        // no kind before NULL, CAST, INDEX; NULL before INDEX; CAST before INDEX
        each(BAD, 1, Board.of(-1, 3), "get", LOST, 1, 0);
        each(BAD, 1, Board.of(-1, 3), "get", SHORTS, 1, 3);
        each(BAD, 0, Board.of(-1, 10), "get", SHORTS, 2, 3);
        each(NULL, 2, Board.of(-1, 12), "get", LOST, 1, 0);
        each(CAST, 2, Board.of(-1, 3), "get", SHORTS, 2, 0);
        refused(CAST, "get", EMPTY, 0, 0);
    }

    private static void copy() {
        asksSheet(0, "copy", SQUARE, 0, LONGEST, 0, 2);
        asksSheet(2, "copy", SQUARE, 0, LONGEST, 0, 2);
        refused(NULL, "copy", LOST, 0, LOST, 0, 0);
        refused(STORE, "copy", SQUARE, 0, SHORTS, 0, 2);
        refused(STORE, "copy", SHORTS, 0, SQUARE, 0, 2);
        refused(STORE, "copy", FULL, 0, SQUARE, 0, 2);
        refused(STORE, "copy", SHORTS, 0, FULL, 0, 2);
        refused(STORE, "copy", FULL, 0, SQUARE, 0, 0);
        // no sheet before NULL and STORE and INDEX
        each(BAD, 0, Board.of(-1, 10), "copy", SQUARE, 0, LOST, 0, 2);
        each(BAD, 2, Board.of(-1, 10), "copy", LOST, 0, SQUARE, 0, 2);
        each(BAD, 0, Board.of(-1, 10), "copy", SQUARE, -1, SHORTS, -1, -1);
        each(BAD, 2, Board.of(-1, 10), "copy", SQUARE, -1, SHORTS, -1, -1);
        // NULL before INDEX
        refused(NULL, "copy", LOST, -1, SQUARE, 0, 1);
        refused(NULL, "copy", SQUARE, 0, LOST, 0, -1);
        refused(NULL, "copy", SQUARE, 4, LOST, 0, 1);
        // STORE before INDEX
        refused(STORE, "copy", SQUARE, -1, SHORTS, 0, 1);
        refused(STORE, "copy", SQUARE, 0, SHORTS, -1, 1);
        refused(STORE, "copy", SQUARE, 0, SHORTS, 0, -1);
        refused(STORE, "copy", SQUARE, 0, FULL, 0, 4);
        refused(STORE, "copy", EMPTY, 0, FULL, 0, 1);
    }

    private static void copyOfNoSuchItems() {
        // of three items to nine
        makes(LONGEST, 1, "copy", SQUARE, 0, LONGEST, 6, 3);
        makes(LONGEST, 1, "copy", SQUARE, 2, LONGEST, 8, 1);
        refused(INDEX, "copy", SQUARE, -1, LONGEST, 0, 1);
        refused(INDEX, "copy", SQUARE, 0, LONGEST, -1, 1);
        refused(INDEX, "copy", SQUARE, 0, LONGEST, 0, -1);
        refused(INDEX, "copy", SQUARE, 0, LONGEST, 0, 4);
        refused(INDEX, "copy", SQUARE, 1, LONGEST, 0, 3);
        refused(INDEX, "copy", SQUARE, 3, LONGEST, 0, 1);
        refused(INDEX, "copy", SQUARE, 0, LONGEST, 7, 3);
        refused(INDEX, "copy", SQUARE, 0, LONGEST, 9, 1);
        // none at all: from the end and to the end, but not from beyond it
        reads(1, "copy", SQUARE, 3, LONGEST, 9, 0);
        refused(INDEX, "copy", SQUARE, 4, LONGEST, 9, 0);
        refused(INDEX, "copy", SQUARE, 3, LONGEST, 10, 0);
        refused(INDEX, "copy", SQUARE, -1, LONGEST, 0, 0);
        refused(INDEX, "copy", SQUARE, 0, LONGEST, -1, 0);
        // an empty row, and a full one with itself
        reads(1, "copy", EMPTY, 0, EMPTY, 0, 0);
        reads(1, "copy", EMPTY, 0, SQUARE, 3, 0);
        refused(INDEX, "copy", EMPTY, 0, SQUARE, 0, 1);
        refused(INDEX, "copy", SQUARE, 0, EMPTY, 0, 1);
        reads(1, "copy", FULL, 0, FULL, 0, 12);
        makes(FULL, 1, "copy", FULL, 0, FULL, 1, 11);
        makes(FULL, 1, "copy", FULL, 1, FULL, 0, 11);
        refused(INDEX, "copy", FULL, 0, FULL, 1, 12);
        refused(INDEX, "copy", FULL, 1, FULL, 0, 12);
        refused(INDEX, "copy", FULL, 0, FULL, 0, 13);
        // sums that would wrap
        refused(INDEX, "copy", SQUARE, MOST, LONGEST, 0, 1);
        refused(INDEX, "copy", SQUARE, MOST, LONGEST, 0, MOST);
        refused(INDEX, "copy", SQUARE, 0, LONGEST, MOST, 1);
        refused(INDEX, "copy", SQUARE, 1, LONGEST, 1, MOST);
        refused(INDEX, "copy", SQUARE, LEAST, LONGEST, 0, 1);
        refused(INDEX, "copy", SQUARE, 0, LONGEST, LEAST, 1);
        refused(INDEX, "copy", SQUARE, 0, LONGEST, 0, LEAST);
        refused(INDEX, "copy", SQUARE, LEAST, LONGEST, LEAST, LEAST);
    }

    // ---- forms

    private static void term() {
        asksForm(0, "term", SQUARE, 1);
        each(BAD, 1, Board.of(-1, 9, LEAST, MOST), "term", SQUARE, 1);
        each(BAD, 1, Board.of(-1, 9, LEAST, MOST), "term", LONGEST, 1);
        reads(9994, "term", SQUARE, 0);
        reads(3, "term", SQUARE, 2);
        reads(0, "term", SQUARE, 3);
        reads(0, "term", SQUARE, 8);
        reads(9, "term", LONGEST, 8);
        reads(7, "term", NUMBER, 0);
        reads(0, "term", NUMBER, 1);
        // no such number before NULL and NOT
        each(BAD, 1, Board.of(-1, 9), "term", LOST, 0);
        each(BAD, 1, Board.of(-1, 9), "term", EMPTY, 0);
        each(BAD, 1, Board.of(-1, 9), "term", TEN, 0);
    }

    private static void degree() {
        asksForm(0, "degree", SQUARE);
        reads(0, "degree", NUMBER);
        reads(8, "degree", LONGEST);
        reads(2, "degree", NOUGHT);
        reads(2, "degree", SHORTS);
    }

    private static void value() {
        asksForm(0, "value", SQUARE, 1, 2);
        reads(7, "value", NUMBER, 0, 0);
        reads(7, "value", NUMBER, LEAST, MOST);
        reads(0, "value", NOUGHT, LEAST, MOST);
        reads(0, "value", LONGEST, 0, 0);
        reads(1, "value", LONGEST, -10008, -10007);
        reads(9, "value", LONGEST, 10007, 10008);
    }

    private static void join() {
        for (int what = 0; what <= 3; what++) {
            asksForms(0, 1, "join", SQUARE, SHORTS, NUMBER, what);
            makesSheet(2, "join", SQUARE, SHORTS, NUMBER, what);
            // no sheet u before NULL and NOT
            each(BAD, 2, Board.of(-1, 10), "join", LOST, SHORTS, NUMBER, what);
            each(BAD, 2, Board.of(-1, 10), "join", SQUARE, EMPTY, NUMBER, what);
        }
        each(BAD, 3, Board.of(-1, 4, LEAST, MOST), "join", SQUARE, SHORTS, NUMBER, 0);
        each(BAD, 3, Board.of(-1, 4), "join", LOST, SHORTS, NUMBER, 0);
        each(BAD, 3, Board.of(-1, 4), "join", SQUARE, TEN, NUMBER, 0);
        for (int what = 0; what <= 1; what++) {
            refused(NOT, "join", SQUARE, LINE, LOST, what);
            refused(NOT, "join", LINE, SQUARE, LOST, what);
            refused(NOT, "join", NUMBER, LONGEST, LOST, what);
            each(BAD, 2, Board.of(-1, 10), "join", SQUARE, LINE, LOST, what);
            makes(LOST, 0, "join", NUMBER, NUMBER, LOST, what);
            makes(LOST, 8, "join", LONGEST, LONGEST, LOST, what);
        }
        makes(LOST, 8, "join", LONGEST, NUMBER, LOST, 2);
        makes(LOST, 8, "join", NUMBER, LONGEST, LOST, 2);
        refused(NOT, "join", LONGEST, LINE, LOST, 2);
        refused(NOT, "join", LINE, LONGEST, LOST, 2);
        refused(NOT, "join", LONGEST, LONGEST, LONGEST, 2);
        each(BAD, 2, Board.of(-1, 10), "join", LONGEST, LINE, LOST, 2);
        makes(LOST, 8, "join", LONGEST, LONGEST, LOST, 3);
        makes(LOST, 0, "join", NUMBER, LONGEST, LOST, 3);
    }

    private static void mix() {
        asksForm(0, "mix", SQUARE, 1, 2, 3, 4, NUMBER);
        makesSheet(5, "mix", SQUARE, 1, 2, 3, 4, NUMBER);
        // no sheet u before NULL and NOT
        each(BAD, 5, Board.of(-1, 10), "mix", LOST, 1, 2, 3, 4, NUMBER);
        each(BAD, 5, Board.of(-1, 10), "mix", TEN, 1, 2, 3, 4, NUMBER);
        makes(LOST, 0, "mix", LONGEST, 0, 0, 0, 0, LOST);
        makes(LOST, 0, "mix", LONGEST, LEAST, LEAST, LEAST, LEAST, LOST);
        makes(LOST, 0, "mix", NUMBER, MOST, MOST, MOST, MOST, LOST);
    }

    private static void change() {
        for (int what = 0; what <= 1; what++) {
            asksForm(0, "change", SQUARE, what, NUMBER);
            makesSheet(2, "change", SQUARE, what, NUMBER);
            refused(NOT, "change", NUMBER, what, LOST);
            refused(NOT, "change", NUMBER, what, NUMBER);
            makes(LOST, 0, "change", LINE, what, LOST);
            makes(LOST, 7, "change", LONGEST, what, LOST);
            // no sheet u before NULL, NOT, and DEGREE 0
            each(BAD, 2, Board.of(-1, 10), "change", LOST, what, SQUARE);
            each(BAD, 2, Board.of(-1, 10), "change", EMPTY, what, SQUARE);
            each(BAD, 2, Board.of(-1, 10), "change", NUMBER, what, SQUARE);
        }
        each(BAD, 1, Board.of(-1, 2, LEAST, MOST), "change", SQUARE, 0, LOST);
        each(BAD, 1, Board.of(-1, 2), "change", LOST, 0, LOST);
        each(BAD, 1, Board.of(-1, 2), "change", TEN, 0, LOST);
        each(BAD, 1, Board.of(-1, 2), "change", NUMBER, 0, LOST);
    }

    private static void overlap() {
        for (int k = 0; k <= 2; k++) {
            asksForms(0, 1, "overlap", SQUARE, SHORTS, k, NUMBER);
            makesSheet(3, "overlap", SQUARE, SHORTS, k, NUMBER);
        }
        each(BAD, 2, Board.of(-1, 9, LEAST, MOST), "overlap", LONGEST, LONGEST, 8, LOST);
        makes(LOST, 0, "overlap", LONGEST, LONGEST, 8, LOST);
        makes(LOST, 8, "overlap", LONGEST, LONGEST, 4, LOST);
        refused(NOT, "overlap", LONGEST, LONGEST, 3, LOST);
        makes(LOST, 8, "overlap", LONGEST, NUMBER, 0, LOST);
        refused(NOT, "overlap", LONGEST, LINE, 0, LOST);
        refused(NOT, "overlap", LINE, LONGEST, 0, LOST);
        makes(LOST, 7, "overlap", LONGEST, LINE, 1, LOST);
        refused(NOT, "overlap", LONGEST, LINE, 2, LOST);
        refused(NOT, "overlap", LINE, LONGEST, 2, LOST);
        refused(NOT, "overlap", NUMBER, NUMBER, 1, LOST);
        makes(LOST, 0, "overlap", NUMBER, NUMBER, 0, LOST);
        // no k and no sheet u before NULL and NOT; NULL before k above DEGREE
        each(BAD, 2, Board.of(-1, 9), "overlap", LOST, SQUARE, 0, SHORTS);
        each(BAD, 2, Board.of(-1, 9), "overlap", SQUARE, EMPTY, 0, SHORTS);
        each(BAD, 2, Board.of(-1, 9), "overlap", NUMBER, LINE, 0, SHORTS);
        each(BAD, 3, Board.of(-1, 10), "overlap", SQUARE, LOST, 0, SHORTS);
        each(BAD, 3, Board.of(-1, 10), "overlap", TEN, SQUARE, 0, SHORTS);
        each(BAD, 3, Board.of(-1, 10), "overlap", LINE, SQUARE, 2, SHORTS);
        each(BAD, 3, Board.of(-1, 10), "overlap", LONGEST, LINE, 0, SHORTS);
        refused(NULL, "overlap", NUMBER, LOST, 8, SHORTS);
        refused(NULL, "overlap", LOST, NUMBER, 8, SHORTS);
    }

    private static void alike() {
        asksForms(0, 1, "alike", SQUARE, SQUARE);
        asksForms(0, 1, "alike", LINE, SQUARE);
        reads(1, "alike", SQUARE, SQUARE);
        reads(1, "alike", LONGEST, LONGEST);
        reads(1, "alike", NUMBER, NUMBER);
        reads(1, "alike", NOUGHT, NOUGHT);
        reads(0, "alike", NOUGHT, SQUARE);
        reads(0, "alike", SQUARE, NOUGHT);
        reads(0, "alike", SQUARE, LINE);
        reads(0, "alike", LINE, NOUGHT);
    }

    // ---- roots

    private static void roots() {
        asksForm(0, "roots", LINE);
        refused(NOT, "roots", NOUGHT);
        reads(0, "roots", NUMBER);
        reads(1, "roots", LINE);
    }

    private static void root() {
        asksForm(0, "root", LINE, 0);
        refused(NOT, "root", NOUGHT, 0);
        each(BAD, 1, Board.of(-1, LEAST), "root", LINE, 0);
        reads(5004, "root", LINE, 0);
        reads(NONE, "root", LINE, 1);
        reads(NONE, "root", LINE, MOST);
        reads(NONE, "root", NUMBER, 0);
        // i below 0 before NULL, NOT, and NOUGHT; these before NONE
        each(BAD, 1, Board.of(-1, LEAST), "root", LOST, 0);
        each(BAD, 1, Board.of(-1, LEAST), "root", EMPTY, 0);
        each(BAD, 1, Board.of(-1, LEAST), "root", NOUGHT, 0);
        refused(NULL, "root", LOST, MOST);
        refused(NOT, "root", TEN, MOST);
        refused(NOT, "root", NOUGHT, MOST);
    }

    private static void common() {
        asksForms(0, 1, "common", SQUARE, SHORTS, NUMBER);
        makesSheet(2, "common", SQUARE, SQUARE, NUMBER);
        refused(NOT, "common", NOUGHT, SQUARE, NUMBER);
        refused(NOT, "common", SQUARE, NOUGHT, NUMBER);
        refused(NOT, "common", NOUGHT, NOUGHT, NOUGHT);
        makes(LOST, 0, "common", NUMBER, NUMBER, LOST);
        makes(LOST, 0, "common", NUMBER, LONGEST, LOST);
        makes(LOST, 8, "common", LONGEST, LONGEST, LOST);
        // no sheet before NULL, NOT, and NOUGHT; NULL before NOUGHT
        each(BAD, 2, Board.of(-1, 10), "common", LOST, SQUARE, NUMBER);
        each(BAD, 2, Board.of(-1, 10), "common", SQUARE, EMPTY, NUMBER);
        each(BAD, 2, Board.of(-1, 10), "common", NOUGHT, SQUARE, NUMBER);
        each(BAD, 0, Board.of(-1, 10), "common", SQUARE, NOUGHT, NUMBER);
        each(BAD, 1, Board.of(-1, 10), "common", NOUGHT, SQUARE, NUMBER);
        refused(NULL, "common", LOST, NOUGHT, NUMBER);
        refused(NULL, "common", NOUGHT, LOST, NUMBER);
    }

    private static void result() {
        asksForms(0, 1, "result", LINE, SQUARE);
        refused(NOT, "result", NUMBER, SQUARE);
        refused(NOT, "result", SQUARE, NUMBER);
        refused(NOT, "result", NUMBER, NUMBER);
        reads(0, "result", LINE, LINE);
        reads(0, "result", LONGEST, LONGEST);
        reads(0, "result", NOUGHT, LINE);
        // no sheet, and NULL, before DEGREE 0 of the other
        each(BAD, 0, Board.of(-1, 10), "result", LINE, NUMBER);
        each(BAD, 1, Board.of(-1, 10), "result", NUMBER, LINE);
        refused(NULL, "result", LOST, NUMBER);
        refused(NULL, "result", NUMBER, LOST);
    }

    // ---- powers

    private static void powers() {
        asksForm(0, "powers", SQUARE, FULL, 3, SHORTS);
        asksSheet(1, "powers", SQUARE, FULL, 3, SHORTS);
        makesSheet(3, "powers", SQUARE, FULL, 3, SHORTS);
        each(BAD, 2, Board.of(0, 10, -1, LEAST, MOST), "powers", LONGEST, FULL, 9, SHORTS);
        makes(LOST, 9, "powers", LONGEST, FULL, 9, LOST);
        makes(LOST, 1, "powers", NUMBER, FULL, 1, LOST);
        refused(NOT, "powers", NUMBER, FULL, 2, LOST);
        makes(LOST, 3, "powers", SQUARE, FULL, 3, LOST);
        refused(NOT, "powers", SQUARE, FULL, 4, LOST);
        refused(NOT, "powers", SQUARE, FULL, 9, LOST);
        // t with just so many items, with one less, with none
        makes(LOST, 3, "powers", NOUGHT, SHORTS, 3, LOST);
        refused(INDEX, "powers", SQUARE, LINE, 3, LOST);
        refused(INDEX, "powers", LONGEST, SHORTS, 4, LOST);
        refused(INDEX, "powers", SQUARE, EMPTY, 1, LOST);
    }

    private static void powersThatAreNot() {
        // alike modulo P; no such sum
        refused(NOT, "powers", SQUARE, NOUGHT, 2, LOST);
        refused(NOT, "powers", SQUARE, NOUGHT, 3, LOST);
        refused(NOT, "powers", NOUGHT, NOUGHT, 2, NOUGHT);
        refused(NOT, "powers", SQUARE, FULL, 1, LOST);
        refused(NOT, "powers", LONGEST, FULL, 8, LOST);
        makes(LOST, 1, "powers", NOUGHT, NOUGHT, 1, LOST);
        // no k and no sheet u before NULL, NOT, INDEX
        each(BAD, 2, Board.of(0, 10), "powers", LOST, FULL, 3, SHORTS);
        each(BAD, 2, Board.of(0, 10), "powers", SQUARE, LOST, 3, SHORTS);
        each(BAD, 2, Board.of(0, 10), "powers", TEN, FULL, 3, SHORTS);
        each(BAD, 2, Board.of(0, 10), "powers", SQUARE, EMPTY, 3, SHORTS);
        each(BAD, 3, Board.of(-1, 10), "powers", LOST, FULL, 3, SHORTS);
        each(BAD, 3, Board.of(-1, 10), "powers", TEN, FULL, 3, SHORTS);
        each(BAD, 3, Board.of(-1, 10), "powers", SQUARE, FULL, 4, SHORTS);
        each(BAD, 3, Board.of(-1, 10), "powers", SQUARE, LINE, 3, SHORTS);
        each(BAD, 3, Board.of(-1, 10), "powers", SQUARE, NOUGHT, 3, SHORTS);
        each(BAD, 0, Board.of(-1, 10), "powers", SQUARE, LOST, 3, SHORTS);
        each(BAD, 0, Board.of(-1, 10), "powers", SQUARE, EMPTY, 3, SHORTS);
        each(BAD, 1, Board.of(-1, 10), "powers", LOST, FULL, 3, SHORTS);
        each(BAD, 1, Board.of(-1, 10), "powers", TEN, FULL, 3, SHORTS);
        // NULL before NOT and INDEX
        refused(NULL, "powers", LOST, EMPTY, 1, SHORTS);
        refused(NULL, "powers", TEN, LOST, 1, SHORTS);
        refused(NULL, "powers", NUMBER, LOST, 2, SHORTS);
        // no form, and k above DEGREE and 1, before INDEX; INDEX before alike ones and before no such sum
        refused(NOT, "powers", TEN, EMPTY, 1, SHORTS);
        refused(NOT, "powers", LINE, LINE, 3, SHORTS);
        refused(INDEX, "powers", LONGEST, NOUGHT, 4, SHORTS);
        refused(INDEX, "powers", LONGEST, NUMBER, 2, SHORTS);
    }

    private static void build() {
        asksSheet(0, "build", SQUARE, SHORTS, 3, 2, NUMBER);
        asksSheet(1, "build", SQUARE, SHORTS, 3, 2, NUMBER);
        makesSheet(4, "build", SQUARE, SHORTS, 3, 2, NUMBER);
        each(BAD, 2, Board.of(-1, 13, LEAST, MOST), "build", FULL, FULL, 3, 2, NUMBER);
        makes(LOST, 2, "build", FULL, FULL, 12, 2, LOST);
        makes(LOST, 2, "build", EMPTY, EMPTY, 0, 2, LOST);
        each(BAD, 3, Board.of(-1, 9, LEAST, MOST), "build", FULL, FULL, 3, 2, NUMBER);
        makes(LOST, 0, "build", FULL, FULL, 12, 0, LOST);
        makes(LOST, 8, "build", FULL, FULL, 12, 8, LOST);
        makes(LOST, 8, "build", EMPTY, EMPTY, 0, 8, LOST);
        makes(LOST, 2, "build", FULL, TEN, 10, 2, LOST);
        refused(INDEX, "build", FULL, TEN, 11, 2, LOST);
        refused(INDEX, "build", TEN, FULL, 11, 2, LOST);
        refused(INDEX, "build", EMPTY, FULL, 1, 2, LOST);
        refused(INDEX, "build", FULL, EMPTY, 1, 2, LOST);
        refused(INDEX, "build", LINE, LINE, 3, 2, LINE);
        // no k, no n and no sheet u before NULL and INDEX; NULL before INDEX
        each(BAD, 2, Board.of(-1, 13), "build", LOST, FULL, 3, 2, NUMBER);
        each(BAD, 3, Board.of(-1, 9), "build", FULL, LOST, 3, 2, NUMBER);
        each(BAD, 3, Board.of(-1, 9), "build", EMPTY, FULL, 3, 2, NUMBER);
        each(BAD, 4, Board.of(-1, 10), "build", LOST, FULL, 3, 2, NUMBER);
        each(BAD, 4, Board.of(-1, 10), "build", FULL, EMPTY, 3, 2, NUMBER);
        each(BAD, 0, Board.of(-1, 10), "build", FULL, LOST, 3, 2, NUMBER);
        each(BAD, 1, Board.of(-1, 10), "build", LOST, FULL, 3, 2, NUMBER);
        each(BAD, 0, Board.of(-1, 10), "build", FULL, EMPTY, 3, 2, NUMBER);
        each(BAD, 1, Board.of(-1, 10), "build", EMPTY, FULL, 3, 2, NUMBER);
        each(BAD, 2, Board.of(-1, 13), "build", EMPTY, EMPTY, 3, 2, NUMBER);
        refused(NULL, "build", LOST, EMPTY, 1, 2, NUMBER);
        refused(NULL, "build", EMPTY, LOST, 1, 2, NUMBER);
        refused(NULL, "build", LOST, FULL, 0, 2, NUMBER);
    }

    private static void rank() {
        asksForm(0, "rank", SQUARE, 0);
        each(BAD, 1, Board.of(-1, LEAST), "rank", SQUARE, 0);
        reads(1, "rank", SQUARE, 0);
        reads(1, "rank", SQUARE, 2);
        each(NOT, 1, Board.of(3, 9, MOST), "rank", SQUARE, 0);
        reads(1, "rank", LONGEST, 8);
        refused(NOT, "rank", LONGEST, 9);
        reads(1, "rank", NUMBER, 0);
        refused(NOT, "rank", NUMBER, 1);
        reads(0, "rank", NOUGHT, 1);
        // k below 0 before NULL and NOT; NULL before k above DEGREE
        each(BAD, 1, Board.of(-1, LEAST), "rank", LOST, 0);
        each(BAD, 1, Board.of(-1, LEAST), "rank", EMPTY, 0);
        refused(NULL, "rank", LOST, MOST);
    }

    // ---- what stays

    private static void leads() {
        asksForms(0, 1, "leads", SHORTS, SHORTS, 1);
        each(BAD, 2, Board.of(0, 3, -1, LEAST, MOST), "leads", SHORTS, SHORTS, 1);
        reads(48, "leads", NUMBER, NUMBER, 1);
        reads(496, "leads", NUMBER, NUMBER, 2);
        refused(NOT, "leads", SQUARE, LINE, 1);
        refused(NOT, "leads", LINE, SQUARE, 1);
        refused(NOT, "leads", LINE, NOUGHT, 1);
        // no B before NULL, NOT, and unlike DEGREES
        each(BAD, 2, Board.of(0, 3), "leads", LOST, SQUARE, 1);
        each(BAD, 2, Board.of(0, 3), "leads", SQUARE, TEN, 1);
        each(BAD, 2, Board.of(0, 3), "leads", SQUARE, LINE, 1);
    }

    private static void lead() {
        asksForms(0, 1, "lead", SHORTS, SHORTS, 1, 0);
        each(BAD, 2, Board.of(0, 3, -1, LEAST, MOST), "lead", SHORTS, SHORTS, 1, 0);
        each(BAD, 3, Board.of(-1, LEAST), "lead", SHORTS, SHORTS, 1, 0);
        reads(1112, "lead", NUMBER, NUMBER, 1, 0);
        reads(3332, "lead", NUMBER, NUMBER, 1, 47);
        reads(NONE, "lead", NUMBER, NUMBER, 1, 48);
        reads(1, "lead", NUMBER, NUMBER, 2, 0);
        reads(4443, "lead", NUMBER, NUMBER, 2, 495);
        reads(NONE, "lead", NUMBER, NUMBER, 2, 496);
        reads(NONE, "lead", NUMBER, NUMBER, 2, MOST);
        refused(NOT, "lead", SQUARE, LINE, 1, 0);
        refused(NOT, "lead", LINE, SQUARE, 1, 0);
        // no B and no i before NULL, NOT, and unlike DEGREES; these before NONE
        each(BAD, 2, Board.of(0, 3), "lead", LOST, SQUARE, 1, 0);
        each(BAD, 2, Board.of(0, 3), "lead", SQUARE, TEN, 1, 0);
        each(BAD, 2, Board.of(0, 3), "lead", SQUARE, LINE, 1, 0);
        each(BAD, 3, Board.of(-1, LEAST), "lead", LOST, SQUARE, 1, 0);
        each(BAD, 3, Board.of(-1, LEAST), "lead", SQUARE, TEN, 1, 0);
        each(BAD, 3, Board.of(-1, LEAST), "lead", SQUARE, LINE, 1, 0);
        refused(NULL, "lead", LOST, EMPTY, 1, MOST);
        refused(NULL, "lead", EMPTY, LOST, 1, MOST);
        refused(NOT, "lead", TEN, SQUARE, 1, MOST);
        refused(NOT, "lead", SQUARE, LINE, 1, MOST);
    }

    private static void staying() {
        each(BAD, 0, Board.of(0, 9, -1, LEAST, MOST), "staying", 2, 2, 0);
        each(BAD, 0, Board.of(0, 9, -1, LEAST, MOST), "staying", 2, 0, 0);
        each(BAD, 1, Board.of(-1, 9, LEAST, MOST), "staying", 2, 2, 0);
        each(BAD, 2, Board.of(-1, 5, LEAST, MOST), "staying", 2, 2, 0);
        each(BAD, 2, Board.of(-1, 65), "staying", 8, 8, 0);
        each(BAD, 2, Board.of(-1, 1), "staying", 8, 0, 0);
        reads(1, "staying", 1, 0, 0);
        reads(1, "staying", 8, 0, 0);
        reads(1, "staying", 1, 8, 8);
        reads(0, "staying", 1, 8, 0);
        reads(1, "staying", 2, 2, 4);
        reads(1, "staying", 8, 8, 64);
        reads(7, "staying", 8, 8, 0);
    }

    private static void count() {
        each(BAD, 0, Board.of(-1, 3, LEAST, MOST), "count", 0);
        reads(9, "count", 0);
        reads(5, "count", 1);
        reads(6, "count", 2);
    }

    private static void digest() {
        reads(Board.full(0).digest(), "digest");
    }
}
