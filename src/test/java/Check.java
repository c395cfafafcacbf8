/** Keeps count of the answers that are not as due. */
final class Check {
    private final String name;
    private int asked = 0;
    private int wrong = 0;

    Check(String name) {
        this.name = name;
    }

    void due(String call, long got, long want) {
        asked++;
        if (got != want) {
            wrong++;
            if (wrong <= 50) {
                System.out.println(name + ": " + call + " answered " + got + ", due is " + want);
            }
        }
    }

    void holds(String what, boolean so) {
        due(what, so ? 1 : 0, 1);
    }

    /** The sheet is a row of this kind and of just these items. Makes a finding, INDEX. */
    void shows(String what, FormsOfTwo x, int s, int kind, int... items) {
        for (int i = 0; i < items.length; i++) {
            due(what + ": item " + i, x.get(s, kind, i), items[i]);
        }
        due(what + ": no further item", x.get(s, kind, items.length), Integer.MIN_VALUE);
        due(what + ": count(1) after it", x.count(1), 2);
    }

    void end() {
        System.out.println(name + ": " + asked + " answers, " + wrong + " not as due");
        if (wrong != 0) {
            System.exit(1);
        }
    }
}
