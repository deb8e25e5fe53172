/** Promise 29: broken. */
public final class Promise29BrokenTest {
    private static final int OUT = 5;

    public static void main(String[] args) {
        Promise.run(Promise29BrokenTest.class);
    }

    /** Two who part by a tick in each PACE. */
    private static LongColumn parting() {
        LongColumn x = Due.of("keep 1 every 10;free 1 every 10 drift 1");
        x.rule(0, 2000);
        return x;
    }

    @Sentence("Behind how many PACES (0 to 200) there are at most so many (0 to 24) TOGETHER on it, for the first time.")
    static void behindSome(Due due) {
        due.is("within 5", parting().broken(0, 10, 5, 1), 6);
        due.is("within 0", parting().broken(0, 10, 0, 1), 1);
        LongColumn x = Due.of("keep 1 every 10;free 1 every 10 drift 99");
        x.rule(0, 100);
        // it comes back, but it was away at first
        x.change(1, OUT, 3);
        due.is("at first", x.broken(0, 10, 2, 1), 0);
        x.change(1, OUT, 0);
        due.is("for the first time", x.broken(0, 10, 2, 1), 3);
    }

    @Sentence("PACES (0 to 200)")
    static void atOnce(Due due) {
        due.is("both may", parting().broken(0, 10, 999, 2), 0);
        due.is("one is on it", parting().broken(10, 10, 999, 1), 0);
        due.is("nobody is on it", parting().broken(11, 4999, 999, 0), 0);
    }

    @Sentence("PACES (0 to 200)")
    static void just200(Due due) {
        due.is("199", parting().broken(0, 10, 198, 1), 199);
        due.is("200", parting().broken(0, 10, 199, 1), 200);
    }

    @Sentence("NONE: not in 200.")
    static void notIn200(Due due) {
        due.refuses("201", Due.NONE, Promise29BrokenTest::parting, x -> x.broken(0, 10, 200, 1));
        due.refuses("never none", Due.NONE, Promise29BrokenTest::parting, x -> x.broken(0, 10, 0, 0));
        due.refuses("all keep", Due.NONE, () -> Due.of("keep 2 every 10"), x -> x.broken(0, 10, 0, 1));
    }

    @Sentence("at most so many (0 to 24)")
    static void mostAtItsEnds(Due due) {
        LongColumn x = Due.of("keep 24 every 1");
        due.is("24", x.broken(0, 4999, 0, 24), 0);
        due.is("23", x.broken(0, 4999, 0, 23), Due.NONE);
        due.is("23 without the last", x.broken(0, 22, 0, 23), 0);
        due.is("0 beside them", x.broken(24, 24, 0, 0), 0);
    }

    @Sentence({"at most so many (0 to 24)", "BEYOND."})
    static void mostTooSmall(Due due) {
        due.refuses("-1", Due.BEYOND, Due::some, x -> x.broken(0, 10, 0, -1));
        due.refuses("far", Due.BEYOND, Due::some, x -> x.broken(0, 10, 0, Due.MIN));
    }

    @Sentence({"at most so many (0 to 24)", "BEYOND."})
    static void mostTooLarge(Due due) {
        due.refuses("25", Due.BEYOND, Due::some, x -> x.broken(0, 10, 0, 25));
        due.refuses("far", Due.BEYOND, Due::some, x -> x.broken(0, 10, 0, Due.MAX));
    }

    @Sentence({"BEYOND.", "A BRIDGE is from a place to another one."})
    static void endsBeyond(Due due) {
        due.refuses("from -1", Due.BEYOND, Due::some, x -> x.broken(-1, 10, 0, 0));
        due.refuses("from 5000", Due.BEYOND, Due::some, x -> x.broken(5000, 5000, 0, 0));
        due.refuses("to ahead of from", Due.BEYOND, Due::some, x -> x.broken(10, 9, 0, 0));
        due.refuses("to 5000", Due.BEYOND, Due::some, x -> x.broken(0, 5000, 0, 0));
        due.refuses("far", Due.BEYOND, Due::some, x -> x.broken(Due.MIN, Due.MAX, 0, 0));
        due.is("all the way", Due.some().broken(0, 4999, 0, 24), 0);
        due.is("the last place", Due.some().broken(4999, 4999, 0, 0), 0);
    }

    @Sentence({"BEYOND.", "TOGETHER on it within t ticks"})
    static void tBeyond(Due due) {
        due.refuses("-1", Due.BEYOND, Due::some, x -> x.broken(0, 10, -1, 0));
        due.refuses("1000", Due.BEYOND, Due::some, x -> x.broken(0, 10, 1000, 0));
        due.refuses("far below", Due.BEYOND, Due::some, x -> x.broken(0, 10, Due.MIN, 0));
        due.refuses("far above", Due.BEYOND, Due::some, x -> x.broken(0, 10, Due.MAX, 0));
    }

    @Sentence({"BEYOND. NONE: not in 200.", "in the order in which they are asked (that of its words)"})
    static void beyondAheadOfNone(Due due) {
        due.refuses("t", Due.BEYOND, Promise29BrokenTest::parting, x -> x.broken(0, 10, 1000, 0));
        due.refuses("most", Due.BEYOND, LongColumn::new, x -> x.broken(0, 10, 0, 25));
    }

    @Sentence("there are at most so many (0 to 24) TOGETHER on it")
    static void noRanks(Due due) {
        LongColumn x = new LongColumn();
        due.is("none", x.broken(0, 4999, 999, 0), 0);
        due.is("no finding", x.status(-1), 0);
    }

    @Sentence("(nothing changes)")
    static void nothingChanges(Due due) {
        LongColumn x = Due.some();
        String before = Seen.of(x);
        x.broken(0, 4999, 0, 0);
        due.holds("as it was", Seen.of(x).equals(before));
    }
}
