import java.util.Random;

/**
 * Runs of random calls (always the same ones) on the class and on the model, which must answer alike. No run goes
 * beyond the 512 calls that are promised.
 */
public final class ModelTest {
    private static final Check CHECK = new Check("model");
    private static final int RUNS = 2500;
    private static final int CALLS = 512;
    // What compareAll asks at most, and a step before it.
    private static final int KEPT_FOR_THE_END = 200, KEPT_FOR_A_STEP = 20;
    private static final int[] WIDE = {Integer.MIN_VALUE, Integer.MAX_VALUE, -1, 10006, 10007, 10008, -10007, 65536};

    private static Random random;
    private static int calls;
    private static FormsOfTwo x;
    private static Model m;

    public static void main(String[] args) {
        everyStaying();
        for (int run = 0; run < RUNS; run++) {
            random = new Random(run);
            begin();
            while (calls + KEPT_FOR_A_STEP + KEPT_FOR_THE_END <= CALLS) {
                String when = "run " + run + ", call " + calls + ": ";
                step(when);
                due(when, "count", x.count(1), m.count(1), 1);
                due(when, "digest", x.digest(), m.digest());
            }
            compareAll("run " + run + ", at its end: ");
            CHECK.holds("a run of " + calls + " calls", calls <= CALLS);
        }
        CHECK.end();
    }

    private static void begin() {
        x = new FormsOfTwo();
        m = new Model();
        calls = 0;
    }

    private static void everyStaying() {
        for (int n = -1; n <= 9; n++) {
            for (int d = -1; d <= 9; d++) {
                begin();
                for (int e = -1; e <= 65; e++) {
                    due("", "staying", x.staying(n, d, e), m.staying(n, d, e), n, d, e);
                }
            }
        }
    }

    /** Every kind of each sheet, every item and one beyond. */
    private static void compareAll(String when) {
        for (int s = 0; s < 10; s++) {
            for (int kind = 0; kind < 3; kind++) {
                due(when, "get", x.get(s, kind, 12), m.get(s, kind, 12), s, kind, 12);
                due(when, "count", x.count(1), m.count(1), 1);
                for (int i = 0; i <= m.sizeAs(s, kind); i++) {
                    due(when, "get", x.get(s, kind, i), m.get(s, kind, i), s, kind, i);
                }
            }
        }
        due(when, "digest", x.digest(), m.digest());
        for (int what = -1; what <= 3; what++) {
            due(when, "count", x.count(what), m.count(what), what);
        }
    }

    private static int upTo(int most) {
        return random.nextInt(most + 1);
    }

    /** A sheet that most runs use often, now and then another or none. */
    private static int s() {
        int dice = upTo(59);
        return dice == 0 ? -1 : dice == 1 ? 10 : dice < 6 ? upTo(9) : upTo(5);
    }

    private static int near(int least, int most) {
        return upTo(39) == 0 ? (upTo(1) == 0 ? least - 1 : most + 1) : least + upTo(most - least);
    }

    private static int number() {
        int dice = upTo(9);
        return dice == 0 ? WIDE[upTo(WIDE.length - 1)] : dice < 3 ? 0 : dice < 8 ? upTo(8) - 4 : random.nextInt();
    }

    private static void due(String when, String name, long got, long want, int... with) {
        calls++;
        CHECK.due(when + Board.told(name, with), got, want);
    }

    private static void step(String when) {
        int group = upTo(9);
        if (group < 3) {
            layForm(when);
        } else if (group == 3) {
            stepSheets(when);
        } else if (group < 7) {
            stepForms(when);
        } else if (group == 7) {
            stepRoots(when);
        } else if (group == 8) {
            stepPowers(when);
        } else {
            stepLeads(when);
        }
    }

    private static void layForm(String when) {
        int s = s();
        int kind = upTo(3) == 0 ? near(0, 2) : 2;
        int n = upTo(9) == 0 ? near(0, 12) : 1 + upTo(upTo(3) == 0 ? 8 : 3);
        due(when, "sheet", x.sheet(s, kind, n), m.sheet(s, kind, n), s, kind, n);
        for (int i = 0; i < n; i++) {
            int v = number();
            due(when, "put", x.put(s, kind, i, v), m.put(s, kind, i, v), s, kind, i, v);
        }
    }

    private static void stepSheets(String when) {
        int s = s(), t = s(), kind = near(0, 2), i = near(0, 5), j = near(0, 5), n = near(0, 4), v = number();
        switch (upTo(5)) {
            case 0:
                due(when, "lose", x.lose(s), m.lose(s), s);
                break;
            case 1:
                due(when, "put", x.put(s, kind, i, v), m.put(s, kind, i, v), s, kind, i, v);
                break;
            case 2:
                due(when, "get", x.get(s, kind, i), m.get(s, kind, i), s, kind, i);
                break;
            case 3:
                due(when, "copy", x.copy(s, v, t, j, n), m.copy(s, v, t, j, n), s, v, t, j, n);
                break;
            default:
                due(when, "copy", x.copy(s, i, t, j, n), m.copy(s, i, t, j, n), s, i, t, j, n);
                break;
        }
    }

    private static void stepForms(String when) {
        int s = s(), t = s(), u = s(), a = number(), b = number(), c = number(), d = number();
        int what = near(0, 3), k = upTo(2) == 0 ? near(0, 8) : near(0, 2), i = near(0, 8);
        switch (upTo(7)) {
            case 0:
                due(when, "term", x.term(s, i), m.term(s, i), s, i);
                break;
            case 1:
                due(when, "degree", x.degree(s), m.degree(s), s);
                break;
            case 2:
                due(when, "value", x.value(s, a, b), m.value(s, a, b), s, a, b);
                break;
            case 3:
                due(when, "join", x.join(s, t, u, what), m.join(s, t, u, what), s, t, u, what);
                break;
            case 4:
                due(when, "mix", x.mix(s, a, b, c, d, u), m.mix(s, a, b, c, d, u), s, a, b, c, d, u);
                break;
            case 5:
                due(when, "change", x.change(s, what, u), m.change(s, what, u), s, what, u);
                break;
            case 6:
                due(when, "overlap", x.overlap(s, t, k, u), m.overlap(s, t, k, u), s, t, k, u);
                break;
            default:
                alike(when, s, t, u, a);
                break;
        }
    }

    /** Often with a multiple, which two sheets are seldom by chance. */
    private static void alike(String when, int s, int t, int u, int a) {
        if (upTo(1) == 0) {
            due(when, "sheet", x.sheet(t, 2, 1), m.sheet(t, 2, 1), t, 2, 1);
            due(when, "put", x.put(t, 2, 0, a), m.put(t, 2, 0, a), t, 2, 0, a);
            due(when, "join", x.join(s, t, u, 3), m.join(s, t, u, 3), s, t, u, 3);
            due(when, "alike", x.alike(s, u), m.alike(s, u), s, u);
        }
        due(when, "alike", x.alike(s, t), m.alike(s, t), s, t);
    }

    private static void stepRoots(String when) {
        int s = s(), t = s(), u = s(), i = near(0, 3);
        switch (upTo(3)) {
            case 0:
                due(when, "roots", x.roots(s), m.roots(s), s);
                break;
            case 1:
                due(when, "root", x.root(s, i), m.root(s, i), s, i);
                break;
            case 2:
                common(when, s, t, u);
                break;
            default:
                due(when, "result", x.result(s, t), m.result(s, t), s, t);
                break;
        }
    }

    /** Often of two that have a third together. */
    private static void common(String when, int s, int t, int u) {
        if (upTo(1) == 0) {
            due(when, "join", x.join(s, u, s, 2), m.join(s, u, s, 2), s, u, s, 2);
            due(when, "join", x.join(t, u, t, 2), m.join(t, u, t, 2), t, u, t, 2);
        }
        due(when, "common", x.common(s, t, u), m.common(s, t, u), s, t, u);
    }

    private static void stepPowers(String when) {
        int s = s(), t = s(), u = s(), k = near(1, 4), n = near(0, 8);
        switch (upTo(3)) {
            case 0:
                due(when, "powers", x.powers(s, t, k, u), m.powers(s, t, k, u), s, t, k, u);
                break;
            case 1:
                due(when, "build", x.build(s, t, k, n, u), m.build(s, t, k, n, u), s, t, k, n, u);
                due(when, "powers", x.powers(u, s, k, t), m.powers(u, s, k, t), u, s, k, t);
                break;
            case 2:
                due(when, "build", x.build(s, t, k - 1, n, u), m.build(s, t, k - 1, n, u), s, t, k - 1, n, u);
                due(when, "rank", x.rank(u, n / 2), m.rank(u, n / 2), u, n / 2);
                break;
            default:
                due(when, "rank", x.rank(s, k - 1), m.rank(s, k - 1), s, k - 1);
                break;
        }
    }

    /** Mostly to a form that a table leads to. */
    private static void stepLeads(String when) {
        int s = s(), t = s(), b = near(1, 2), i = near(0, 5);
        if (upTo(3) != 0) {
            int p = upTo(4) - 2, q = upTo(4) - 2, v = upTo(4) - 2, w = upTo(4) - 2;
            due(when, "mix", x.mix(s, p, q, v, w, t), m.mix(s, p, q, v, w, t), s, p, q, v, w, t);
        }
        if (upTo(1) == 0) {
            due(when, "leads", x.leads(s, t, b), m.leads(s, t, b), s, t, b);
        } else {
            due(when, "lead", x.lead(s, t, b, i), m.lead(s, t, b, i), s, t, b, i);
        }
    }
}
