import java.util.function.Supplier;
import java.util.function.ToIntFunction;

/** Counts answers, prints those that are not the ones that are due, and ends a test. */
final class Due {
    static final int BEYOND = -1000001;
    static final int FULL = -1000002;
    static final int KIND = -1000003;
    static final int NONE = -1000004;
    static final int STATE = -1000005;
    static final int MISSING = -1000006;
    static final int SIZE = -1000007;
    static final int MIN = Integer.MIN_VALUE;
    static final int MAX = Integer.MAX_VALUE;

    private int asked = 0;
    private int wrong = 0;

    void is(String what, int got, int want) {
        asked++;
        if (got != want) {
            wrong++;
            System.out.println(what + " answered " + got + ", due is " + want);
        }
    }

    void holds(String what, boolean does) {
        is(what, does ? 1 : 0, 1);
    }

    /** OUT of the RANKS from RANK 0 on. */
    void outs(String what, LongColumn x, int... outs) {
        for (int rank = 0; rank < outs.length; rank++) {
            is(what + ": OUT of " + rank, x.rankOf(rank, 5), outs[rank]);
        }
    }

    /** A call answers a finding, which is counted and changes nothing else. */
    void refuses(String what, int finding, Supplier<LongColumn> made, ToIntFunction<LongColumn> call) {
        LongColumn x = made.get();
        String before = Seen.of(x);
        int all = x.status(-1);
        int such = x.status(BEYOND - finding);
        is(what, call.applyAsInt(x), finding);
        is(what + ": findings in all", x.status(-1), all + 1);
        is(what + ": findings of this sort", x.status(BEYOND - finding), such + 1);
        String after = Seen.of(x);
        holds(what + ": nothing changes, not from " + before + " to " + after, after.equals(before));
        is(what + ": what is kept stays", x.undo(), made.get().undo());
    }

    /** The answer of column() to a text that is put on an empty tape. */
    static int column(LongColumn x, String text) {
        x.wipe();
        feed(x, text);
        return x.column();
    }

    /** Puts a text on the tape, by as few calls as can be. */
    static void feed(LongColumn x, String text) {
        for (int from = 0; from < text.length(); from += 4) {
            int n = Math.min(4, text.length() - from);
            int bytes = 0;
            for (int i = 0; i < n; i++) {
                bytes = bytes << 8 | text.charAt(from + i);
            }
            x.feed(bytes, n);
        }
    }

    /** A new column of a text. */
    static LongColumn of(String text) {
        LongColumn x = new LongColumn();
        if (column(x, text) < 1) {
            throw new IllegalArgumentException(text);
        }
        return x;
    }

    /** A column in which there is something of everything, so that a change would be seen. */
    static LongColumn some() {
        LongColumn x = of("ear 1 every 1;eye 1 every 30");
        x.image();
        column(x, "free 1 every 30 drift 7");
        x.change(0, 5, 40);
        x.change(2, 5, -60);
        x.drum(0, 50, 0);
        x.drum(110, 50, 20);
        x.bend(10);
        x.hold(1, 2);
        x.sheet(0, 16, 2);
        x.write(0, 1, 9);
        x.seed(77);
        feed(x, "ear");
        return x;
    }

    boolean wasMet() {
        return asked > 0 && wrong == 0;
    }

    void end() {
        System.out.println(asked + " answers, " + wrong + " not as due");
        if (!wasMet()) {
            System.exit(1);
        }
    }
}
