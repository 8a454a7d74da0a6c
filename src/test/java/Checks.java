/** What the tests share: an answer is compared with the one that is due, and counted. */
final class Checks {
    static final int NULL = -1000011, PLACE = -1000012, KIND = -1000013, SIZE = -1000014, STORE = -1000015;
    static final int NONE = -1000000, BAD = -1000001, STATE = -1000002, FULL = -1000003;

    private final String name;
    private int wrong, right;

    Checks(String name) {
        this.name = name;
    }

    void due(String call, long got, long want) {
        if (got == want) {
            right++;
        } else {
            wrong++;
            System.out.println(name + ": " + call + " answered " + got + ", due is " + want);
        }
    }

    void holds(String what, boolean so) {
        due(what + " (1: so)", so ? 1 : 0, 1);
    }

    static int tell(LadderSprings x, String text) {
        for (int i = 0; i < text.length(); i++) {
            x.feed(text.charAt(i));
        }
        return x.lake();
    }

    static LadderSprings of(String text) {
        LadderSprings x = new LadderSprings();
        if (tell(x, text) < 0) {
            throw new IllegalStateException("a test's own text is wrong: " + text);
        }
        return x;
    }

    /** A row of ints with these items. */
    static void fill(LadderSprings x, int row, int... items) {
        x.row(row, 2, items.length);
        for (int i = 0; i < items.length; i++) {
            x.set(row, i, items[i]);
        }
    }

    void end() {
        System.out.println(name + ": " + right + " answers as due, " + wrong + " not");
        if (wrong != 0) {
            System.exit(1);
        }
    }
}
