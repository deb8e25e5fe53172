/** Promise 28: bridge. */
public final class Promise28BridgeTest {
    private static final int OUT = 5;

    public static void main(String[] args) {
        Promise.run(Promise28BridgeTest.class);
    }

    /** KEEPERS every 10 feet who are OUT so. */
    private static LongColumn out(int... outs) {
        LongColumn x = Due.of("keep " + outs.length + " every 10");
        for (int rank = 0; rank < outs.length; rank++) {
            x.change(rank, OUT, outs[rank]);
        }
        return x;
    }

    @Sentence({"TOGETHER on a BRIDGE within t (0 to 999) behind a MARCH of n PACES (0 to 200)",
        "TOGETHER on it within t ticks: the most RANKS on it (places of both ends, too) such that OUT of each is t at most "
        + "behind that of one of them"})
    static void withinT(Due due) {
        LongColumn x = out(0, 11, 0, 30);
        due.is("within 0", x.bridge(0, 30, 0, 0), 2);
        due.is("within 10", x.bridge(0, 30, 10, 0), 2);
        due.is("within 11", x.bridge(0, 30, 11, 0), 3);
        due.is("within 29", x.bridge(0, 30, 29, 0), 3);
        due.is("within 30", x.bridge(0, 30, 30, 0), 4);
    }

    @Sentence("(round PACE, too: a difference is one of 0 to PACE less 1).")
    static void roundPace(Due due) {
        LongColumn x = out(240, 250, -240);
        // -240 is 20 behind 240
        due.is("within 19", x.bridge(0, 20, 19, 0), 2);
        due.is("within 20", x.bridge(0, 20, 20, 0), 3);
        LongColumn y = out(0, 167, -167);
        // 167, 166 and 167 ticks lie between them: all are behind one by 333 at least
        due.is("within 166", y.bridge(0, 20, 166, 0), 2);
        due.is("within 332", y.bridge(0, 20, 332, 0), 2);
        due.is("within 333", y.bridge(0, 20, 333, 0), 3);
    }

    @Sentence("a difference is one of 0 to PACE less 1")
    static void withinAWholePace(Due due) {
        LongColumn x = out(0, 1);
        due.is("1 behind, or 499", x.bridge(0, 10, 0, 0), 1);
        LongColumn y = out(0, 25, 50, -25);
        y.rule(0, 100);
        due.is("within 74", y.bridge(0, 30, 74, 0), 3);
        due.is("within 75", y.bridge(0, 30, 75, 0), 4);
        due.is("within 99", y.bridge(0, 30, 99, 0), 4);
        due.is("within 999", y.bridge(0, 30, 999, 0), 4);
    }

    @Sentence("within t (0 to 999)")
    static void tAtItsEnds(Due due) {
        LongColumn x = out(0, 0);
        x.rule(0, 2000);
        x.change(1, OUT, 1000);
        due.is("within 0", x.bridge(0, 10, 0, 0), 1);
        due.is("1000 within 999", x.bridge(0, 10, 999, 0), 1);
        x.change(1, OUT, 999);
        due.is("999 within 999", x.bridge(0, 10, 999, 0), 2);
    }

    @Sentence({"(places of both ends, too)", "A BRIDGE is from a place to another one."})
    static void bothEnds(Due due) {
        LongColumn x = out(0, 0, 0);
        due.is("from end to end", x.bridge(0, 20, 0, 0), 3);
        due.is("one end less", x.bridge(1, 20, 0, 0), 2);
        due.is("the other end less", x.bridge(0, 19, 0, 0), 2);
        due.is("both less", x.bridge(1, 19, 0, 0), 1);
        due.is("between two", x.bridge(11, 19, 0, 0), 0);
        due.is("one place", x.bridge(10, 10, 0, 0), 1);
        due.is("behind all", x.bridge(21, 4999, 999, 0), 0);
    }

    @Sentence("the most RANKS on it")
    static void thoseBesideItDoNotCount(Due due) {
        LongColumn x = out(0, 20, 10);
        due.is("with RANK 0", x.bridge(0, 20, 20, 0), 3);
        due.is("without it", x.bridge(1, 20, 20, 0), 2);
        LongColumn y = out(0, 20, -20);
        due.is("40 apart within 39", y.bridge(10, 20, 39, 0), 1);
        due.is("40 apart within 40", y.bridge(10, 20, 40, 0), 2);
    }

    @Sentence("the most RANKS on it")
    static void noRanks(Due due) {
        LongColumn x = new LongColumn();
        due.is("none", x.bridge(0, 4999, 999, 200), 0);
        due.is("no finding", x.status(-1), 0);
    }

    @Sentence("the most RANKS on it")
    static void allOf24(Due due) {
        LongColumn x = Due.of("free 24 every 200 drift 1");
        due.is("all", x.bridge(0, 4600, 0, 200), 24);
        due.is("all but the last", x.bridge(0, 4599, 0, 200), 23);
        due.is("the last", x.bridge(4600, 4600, 0, 200), 1);
    }

    @Sentence("behind a MARCH of n PACES (0 to 200)")
    static void nAtItsEnds(Due due) {
        LongColumn x = Due.of("keep 1 every 10;free 1 every 10 drift 1");
        x.change(0, OUT, 200);
        due.is("0", x.bridge(0, 10, 0, 0), 1);
        due.is("199", x.bridge(0, 10, 0, 199), 1);
        due.is("200", x.bridge(0, 10, 0, 200), 2);
    }

    @Sentence({"ends: from 0 to 4999, to from there to 4999.", "BEYOND."})
    static void fromTooSmall(Due due) {
        due.refuses("-1", Due.BEYOND, Due::some, x -> x.bridge(-1, 0, 0, 0));
        due.refuses("far", Due.BEYOND, Due::some, x -> x.bridge(Due.MIN, 0, 0, 0));
    }

    @Sentence({"ends: from 0 to 4999, to from there to 4999.", "BEYOND."})
    static void fromTooLarge(Due due) {
        due.refuses("5000", Due.BEYOND, Due::some, x -> x.bridge(5000, 5000, 0, 0));
        due.refuses("far", Due.BEYOND, Due::some, x -> x.bridge(Due.MAX, Due.MAX, 0, 0));
        due.is("4999", Due.some().bridge(4999, 4999, 0, 0), 0);
    }

    @Sentence("to from there to 4999.")
    static void toAheadOfFrom(Due due) {
        due.refuses("10 to 9", Due.BEYOND, Due::some, x -> x.bridge(10, 9, 0, 0));
        due.refuses("0 to -1", Due.BEYOND, Due::some, x -> x.bridge(0, -1, 0, 0));
        due.refuses("0 to far below", Due.BEYOND, Due::some, x -> x.bridge(0, Due.MIN, 0, 0));
    }

    @Sentence("to from there to 4999.")
    static void toTooLarge(Due due) {
        due.refuses("5000", Due.BEYOND, Due::some, x -> x.bridge(0, 5000, 0, 0));
        due.refuses("far", Due.BEYOND, Due::some, x -> x.bridge(0, Due.MAX, 0, 0));
    }

    @Sentence({"within t (0 to 999)", "BEYOND."})
    static void tTooSmallTooLarge(Due due) {
        due.refuses("-1", Due.BEYOND, Due::some, x -> x.bridge(0, 0, -1, 0));
        due.refuses("far below", Due.BEYOND, Due::some, x -> x.bridge(0, 0, Due.MIN, 0));
        due.refuses("1000", Due.BEYOND, Due::some, x -> x.bridge(0, 0, 1000, 0));
        due.refuses("far above", Due.BEYOND, Due::some, x -> x.bridge(0, 0, Due.MAX, 0));
    }

    @Sentence({"n PACES (0 to 200)", "BEYOND."})
    static void nTooSmallTooLarge(Due due) {
        due.refuses("-1", Due.BEYOND, Due::some, x -> x.bridge(0, 0, 0, -1));
        due.refuses("far below", Due.BEYOND, Due::some, x -> x.bridge(0, 0, 0, Due.MIN));
        due.refuses("201", Due.BEYOND, Due::some, x -> x.bridge(0, 0, 0, 201));
        due.refuses("far above", Due.BEYOND, Due::some, x -> x.bridge(0, 0, 0, Due.MAX));
        due.refuses("201 without RANKS", Due.BEYOND, LongColumn::new, x -> x.bridge(0, 0, 0, 201));
    }

    @Sentence("(nothing changes)")
    static void nothingChanges(Due due) {
        LongColumn x = Due.some();
        String before = Seen.of(x);
        x.bridge(0, 4999, 5, 200);
        due.holds("as it was", Seen.of(x).equals(before));
    }
}
