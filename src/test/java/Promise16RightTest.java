/** Promise 16: right. */
public final class Promise16RightTest {
    private static final int OUT = 5;

    public static void main(String[] args) {
        Promise.run(Promise16RightTest.class);
    }

    @Sentence({"RANKS that are RIGHT by n (0 to 999) behind a MARCH of m PACES (0 to 200), as a set.",
        "RIGHT by n are RANKS that are OUT by n at most (either way)."})
    static void eitherWay(Due due) {
        LongColumn x = Due.of("keep 3 every 1;free 1 every 1 drift 2");
        x.change(0, OUT, 10);
        x.change(1, OUT, -10);
        x.change(2, OUT, -11);
        due.is("by 9", x.right(9, 0), 0b1000);
        due.is("by 10", x.right(10, 0), 0b1011);
        due.is("by 11", x.right(11, 0), 0b1111);
        due.is("by 10 behind 5", x.right(10, 5), 0b1011);
        due.is("by 10 behind 6", x.right(10, 6), 0b0011);
    }

    @Sentence("RIGHT by n (0 to 999)")
    static void nAtItsEnds(Due due) {
        LongColumn x = Due.of("keep 4 every 1");
        x.rule(0, 2000);
        x.change(1, OUT, 1);
        x.change(2, OUT, -999);
        x.change(3, OUT, 1000);
        due.is("by 0", x.right(0, 0), 0b0001);
        due.is("by 999", x.right(999, 0), 0b0111);
    }

    @Sentence("Sets are told as bits.")
    static void allOf24(Due due) {
        LongColumn x = Due.of("keep 24 every 1");
        due.is("all", x.right(0, 0), 0xffffff);
        x.change(0, OUT, 1);
        due.is("all but the first", x.right(0, 0), 0xfffffe);
        x.change(23, OUT, 1);
        due.is("and but the last", x.right(0, 0), 0x7ffffe);
    }

    @Sentence("as a set.")
    static void noRanks(Due due) {
        LongColumn x = new LongColumn();
        due.is("none", x.right(999, 200), 0);
        due.is("no finding", x.status(-1), 0);
    }

    @Sentence("behind a MARCH of m PACES (0 to 200)")
    static void mAtItsEnds(Due due) {
        LongColumn x = Due.of("free 1 every 1 drift 1;keep 1 every 1");
        due.is("0", x.right(0, 0), 0b11);
        due.is("200 by 199", x.right(199, 200), 0b10);
        due.is("200 by 200", x.right(200, 200), 0b11);
    }

    @Sentence({"RIGHT by n (0 to 999)", "BEYOND."})
    static void nTooSmall(Due due) {
        due.refuses("-1", Due.BEYOND, Due::some, x -> x.right(-1, 0));
        due.refuses("far", Due.BEYOND, Due::some, x -> x.right(Due.MIN, 0));
    }

    @Sentence({"RIGHT by n (0 to 999)", "BEYOND."})
    static void nTooLarge(Due due) {
        due.refuses("1000", Due.BEYOND, Due::some, x -> x.right(1000, 0));
        due.refuses("far", Due.BEYOND, Due::some, x -> x.right(Due.MAX, 0));
    }

    @Sentence({"m PACES (0 to 200)", "BEYOND."})
    static void mTooSmall(Due due) {
        due.refuses("-1", Due.BEYOND, Due::some, x -> x.right(0, -1));
        due.refuses("far", Due.BEYOND, Due::some, x -> x.right(0, Due.MIN));
    }

    @Sentence({"m PACES (0 to 200)", "BEYOND."})
    static void mTooLarge(Due due) {
        due.refuses("201", Due.BEYOND, Due::some, x -> x.right(0, 201));
        due.refuses("far", Due.BEYOND, Due::some, x -> x.right(0, Due.MAX));
        due.refuses("201 without RANKS", Due.BEYOND, LongColumn::new, x -> x.right(0, 201));
    }

    @Sentence("(nothing changes)")
    static void nothingChanges(Due due) {
        LongColumn x = Due.some();
        String before = Seen.of(x);
        x.right(5, 200);
        due.holds("as it was", Seen.of(x).equals(before));
    }
}
