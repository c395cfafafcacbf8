import java.util.Arrays;

/** Objects with sheets laid out, and every call by its name, so that a test of one call can be one line. */
final class Board {
    static final int BAD = -2, NOT = -3, NULL = -11, INDEX = -12, CAST = -13, STORE = -14, SIZE = -15;

    // The sheets of a full board, by what is on them.
    static final int TEN = 0, LINE = 1, SQUARE = 2, LONGEST = 3, EMPTY = 4, NOUGHT = 5, SHORTS = 6, NUMBER = 7,
        FULL = 8, LOST = 9;

    private static final int[] KINDS = {2, 2, 2, 2, 2, 2, 1, 2, 0, -1};
    private static final int[][] ITEMS = {
        {10, 9, 8, 7, 6, 5, 4, 3, 2, 1},
        {1, -2},
        {20001, 2, 3},
        {1, 2, 3, 4, 5, 6, 7, 8, 9},
        {},
        {0, 10007, -10007},
        {1, -2, 300},
        {7},
        {-6, -5, -4, -3, -2, -1, 0, 1, 2, 3, 4, 5},
        null};

    private Board() {
    }

    static int[] of(int... items) {
        return items;
    }

    static void lay(FormsOfTwo x, int s, int... items) {
        layKind(x, s, 2, items);
    }

    static void layKind(FormsOfTwo x, int s, int kind, int... items) {
        x.sheet(s, kind, items.length);
        for (int i = 0; i < items.length; i++) {
            x.put(s, kind, i, items[i]);
        }
    }

    /** Sheets 0, 1 .. with these ints. */
    static FormsOfTwo with(int[]... forms) {
        FormsOfTwo x = new FormsOfTwo();
        for (int s = 0; s < forms.length; s++) {
            lay(x, s, forms[s]);
        }
        return x;
    }

    /** The full board, after a finding of this number (0: none). */
    static FormsOfTwo full(int finding) {
        FormsOfTwo x = new FormsOfTwo();
        for (int s = 0; s < 10; s++) {
            if (s != LOST) {
                layKind(x, s, KINDS[s], ITEMS[s]);
            }
        }
        find(x, finding);
        return x;
    }

    private static void find(FormsOfTwo x, int finding) {
        switch (finding) {
            case 0:
                break;
            case 1:
                x.lose(LOST);
                break;
            case 5:
                x.sheet(LOST, 0, -1);
                break;
            default:
                throw new IllegalArgumentException("no such finding is made here");
        }
    }

    /** Lays on sheet u what the full board has on s, which is not LOST. */
    static void layAgain(FormsOfTwo x, int s, int u) {
        layKind(x, u, KINDS[s], ITEMS[s]);
    }

    /** All sheets but one (-1: all) are those of the full board. Asks what makes findings. */
    static void asItWas(Check check, String when, FormsOfTwo x, int but) {
        for (int s = 0; s < 10; s++) {
            if (s != but && s == LOST) {
                check.due(when + ": sheet " + s + " is lost", x.lose(s), NULL);
            } else if (s != but) {
                check.shows(when + ": sheet " + s, x, s, KINDS[s], ITEMS[s]);
            }
        }
    }

    static String told(String call, int... a) {
        return call + Arrays.toString(a).replace('[', '(').replace(']', ')');
    }

    static long answer(FormsOfTwo x, String call, int... a) {
        switch (call) {
            case "sheet":
                return x.sheet(a[0], a[1], a[2]);
            case "lose":
                return x.lose(a[0]);
            case "put":
                return x.put(a[0], a[1], a[2], a[3]);
            case "get":
                return x.get(a[0], a[1], a[2]);
            case "copy":
                return x.copy(a[0], a[1], a[2], a[3], a[4]);
            case "staying":
                return x.staying(a[0], a[1], a[2]);
            case "count":
                return x.count(a[0]);
            case "digest":
                return x.digest();
            default:
                return answerOfForms(x, call, a);
        }
    }

    private static long answerOfForms(FormsOfTwo x, String call, int... a) {
        switch (call) {
            case "term":
                return x.term(a[0], a[1]);
            case "degree":
                return x.degree(a[0]);
            case "value":
                return x.value(a[0], a[1], a[2]);
            case "join":
                return x.join(a[0], a[1], a[2], a[3]);
            case "mix":
                return x.mix(a[0], a[1], a[2], a[3], a[4], a[5]);
            case "change":
                return x.change(a[0], a[1], a[2]);
            case "overlap":
                return x.overlap(a[0], a[1], a[2], a[3]);
            case "alike":
                return x.alike(a[0], a[1]);
            default:
                return answerOfRoots(x, call, a);
        }
    }

    private static long answerOfRoots(FormsOfTwo x, String call, int... a) {
        switch (call) {
            case "roots":
                return x.roots(a[0]);
            case "root":
                return x.root(a[0], a[1]);
            case "common":
                return x.common(a[0], a[1], a[2]);
            case "result":
                return x.result(a[0], a[1]);
            case "powers":
                return x.powers(a[0], a[1], a[2], a[3]);
            case "build":
                return x.build(a[0], a[1], a[2], a[3], a[4]);
            case "rank":
                return x.rank(a[0], a[1]);
            case "leads":
                return x.leads(a[0], a[1], a[2]);
            case "lead":
                return x.lead(a[0], a[1], a[2], a[3]);
            default:
                throw new IllegalArgumentException("there is no call " + call);
        }
    }
}
