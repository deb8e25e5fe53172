/** Counts answers, prints those that are not the ones that are due, and ends a test. */
final class Due {
    static final int BEYOND = -1000001;
    static final int FULL = -1000002;
    static final int KIND = -1000003;
    static final int NONE = -1000004;
    static final int STATE = -1000005;
    static final int MISSING = -1000006;
    static final int SIZE = -1000007;

    private int asked = 0;
    private int wrong = 0;

    void is(String what, int got, int want) {
        asked++;
        if (got != want) {
            wrong++;
            System.out.println(what + " answered " + got + ", due is " + want);
        }
    }

    void holds(String what, boolean does) {
        is(what, does ? 1 : 0, 1);
    }

    /** The answer of column() to a text that is put on an empty tape. */
    static int column(LongColumn x, String text) {
        x.wipe();
        for (int i = 0; i < text.length(); i++) {
            x.feed(text.charAt(i), 1);
        }
        return x.column();
    }

    /** A new column of a text. */
    static LongColumn of(String text) {
        LongColumn x = new LongColumn();
        if (column(x, text) < 1) {
            throw new IllegalArgumentException(text);
        }
        return x;
    }

    void end() {
        System.out.println(asked + " answers, " + wrong + " not as due");
        if (wrong != 0) {
            System.exit(1);
        }
    }
}
