/** Promise 25: slip. */
public final class Promise25SlipTest {
    private static final int OUT = 5;
    private static final int MANY = 0;
    private static final int GREATEST = 1;
    private static final int WHEN = 2;

    public static void main(String[] args) {
        Promise.run(Promise25SlipTest.class);
    }

    private static LongColumn chain() {
        return Due.of("keep 1 every 1;eye 3 every 1 part 100");
    }

    @Sentence("what 0 how many RANKS (it, too) would be OUT otherwise behind n PACES (0 to 99)")
    static void howMany(Due due) {
        LongColumn x = Due.of("keep 1 every 1;eye 2 every 1;free 1 every 1 drift 9");
        // RANK 1 differs by 40, 20, 10; RANK 2 by 0, 20, 20
        due.is("at once, it alone", x.slip(1, 40, 0, MANY), 1);
        due.is("behind 1", x.slip(1, 40, 1, MANY), 2);
        due.is("behind 2", x.slip(1, 40, 2, MANY), 2);
        due.is("no slip", x.slip(1, 0, 2, MANY), 0);
    }

    @Sentence("1 the greatest amount of WRAPPED differences then")
    static void theGreatest(Due due) {
        LongColumn x = Due.of("keep 1 every 1;eye 2 every 1;free 1 every 1 drift 9");
        int[] greatest = {40, 20, 20};
        for (int n = 0; n < greatest.length; n++) {
            due.is("behind " + n, x.slip(1, 40, n, GREATEST), greatest[n]);
            due.is("less, behind " + n, x.slip(1, -40, n, GREATEST), greatest[n]);
        }
        due.is("no slip", x.slip(1, 0, 2, GREATEST), 0);
        x.change(2, OUT, 1);
        // 4 comes to 2, -2 to -1, and 1 stays
        due.is("by 3 more", x.slip(2, 3, 1, GREATEST), 1);
        due.is("by 3 less", x.slip(2, -3, 1, GREATEST), 2);
    }

    @Sentence("WRAPPED differences")
    static void differencesGoRound(Due due) {
        LongColumn x = Due.of("keep 1 every 1");
        int[] v = {249, 250, 251, -249, -250, -251, 500, -500, 501};
        int[] amount = {249, 250, 249, 249, 250, 249, 0, 0, 1};
        for (int i = 0; i < v.length; i++) {
            due.is("by " + v[i], x.slip(0, v[i], 0, GREATEST), amount[i]);
        }
        x.change(0, OUT, -240);
        // to -260, which is 240: 480 more, or 20 less
        due.is("-240 by -20", x.slip(0, -20, 0, GREATEST), 20);
    }

    @Sentence("would be OUT otherwise")
    static void aWholePaceIsNone(Due due) {
        LongColumn x = Due.of("keep 1 every 1");
        due.is("how many", x.slip(0, 500, 99, MANY), 0);
        due.is("when", x.slip(0, -500, 99, WHEN), 0);
        x.rule(0, 111);
        due.is("nine PACES", x.slip(0, 999, 0, MANY), 0);
    }

    @Sentence("If OUT of a RANK was by v (-999 to 999) more")
    static void vAtItsEnds(Due due) {
        LongColumn x = Due.of("keep 1 every 1");
        x.rule(0, 2000);
        due.is("999", x.slip(0, 999, 99, GREATEST), 999);
        due.is("-999", x.slip(0, -999, 99, GREATEST), 999);
        x.rule(0, 100);
        due.is("999 by the least PACE", x.slip(0, 999, 0, GREATEST), 1);
    }

    @Sentence({"v (-999 to 999)", "BEYOND: rank, v, n, what."})
    static void vTooSmall(Due due) {
        due.refuses("-1000", Due.BEYOND, Due::some, x -> x.slip(0, -1000, 0, MANY));
        due.refuses("far", Due.BEYOND, Due::some, x -> x.slip(0, Due.MIN, 0, MANY));
    }

    @Sentence({"v (-999 to 999)", "BEYOND: rank, v, n, what."})
    static void vTooLarge(Due due) {
        due.refuses("1000", Due.BEYOND, Due::some, x -> x.slip(0, 1000, 0, MANY));
        due.refuses("far", Due.BEYOND, Due::some, x -> x.slip(0, Due.MAX, 0, MANY));
    }

    @Sentence({"n PACES (0 to 99)", "BEYOND: rank, v, n, what."})
    static void nTooSmall(Due due) {
        due.refuses("-1", Due.BEYOND, Due::some, x -> x.slip(0, 1, -1, MANY));
        due.refuses("far", Due.BEYOND, Due::some, x -> x.slip(0, 1, Due.MIN, WHEN));
    }

    @Sentence({"n PACES (0 to 99)", "BEYOND: rank, v, n, what."})
    static void nTooLarge(Due due) {
        due.refuses("100", Due.BEYOND, Due::some, x -> x.slip(0, 1, 100, MANY));
        due.refuses("100, when", Due.BEYOND, Due::some, x -> x.slip(0, 1, 100, WHEN));
        due.refuses("far", Due.BEYOND, Due::some, x -> x.slip(0, 1, Due.MAX, GREATEST));
    }

    @Sentence("BEYOND: rank, v, n, what.")
    static void otherWhat(Due due) {
        due.refuses("-1", Due.BEYOND, Due::some, x -> x.slip(0, 1, 1, -1));
        due.refuses("3", Due.BEYOND, Due::some, x -> x.slip(0, 1, 1, 3));
        due.refuses("far below", Due.BEYOND, Due::some, x -> x.slip(0, 1, 1, Due.MIN));
        due.refuses("far above", Due.BEYOND, Due::some, x -> x.slip(0, 1, 1, Due.MAX));
    }

    @Sentence("BEYOND: rank, v, n, what.")
    static void rankTooSmall(Due due) {
        due.refuses("-1", Due.BEYOND, Due::some, x -> x.slip(-1, 1, 1, MANY));
        due.refuses("far", Due.BEYOND, Due::some, x -> x.slip(Due.MIN, 1, 1, MANY));
    }

    @Sentence("BEYOND: rank, v, n, what.")
    static void rankTooLarge(Due due) {
        due.refuses("3 of 3", Due.BEYOND, Due::some, x -> x.slip(3, 1, 1, MANY));
        due.refuses("0 of none", Due.BEYOND, LongColumn::new, x -> x.slip(0, 0, 0, MANY));
        due.refuses("far", Due.BEYOND, Due::some, x -> x.slip(Due.MAX, 1, 1, MANY));
    }

    @Sentence("2 behind how many PACES (0 to n) none differs any more, for the first time.")
    static void whenItIsGone(Due due) {
        // each one passes it on and forgets it
        due.is("behind 3", chain().slip(1, 7, 99, WHEN), 3);
        due.is("the last one's behind 1", chain().slip(3, 7, 99, WHEN), 1);
        LongColumn x = Due.of("keep 1 every 1;eye 1 every 1 part 100;free 1 every 1 drift 9");
        due.is("others need not rest", x.slip(1, 7, 99, WHEN), 1);
    }

    @Sentence("behind how many PACES (0 to n)")
    static void whenAtItsEnds(Due due) {
        due.is("no slip, behind 0 of 0", chain().slip(1, 0, 0, WHEN), 0);
        due.is("just in 3", chain().slip(1, 7, 3, WHEN), 3);
        // it is 99 for ever, and v more comes back by 1 in each PACE
        due.is("just in 99", Promise17SettlesTest.slow(99).slip(0, 99, 99, WHEN), 99);
    }

    @Sentence("NONE: (2) not in n.")
    static void notInN(Due due) {
        due.refuses("3 in 2", Due.NONE, Promise25SlipTest::chain, x -> x.slip(1, 7, 2, WHEN));
        due.refuses("any in 0", Due.NONE, Promise25SlipTest::chain, x -> x.slip(1, 7, 0, WHEN));
        due.refuses("never", Due.NONE, Promise25SlipTest::chain, x -> x.slip(0, 7, 99, WHEN));
        due.refuses("100 in 99", Due.NONE, () -> Promise17SettlesTest.slow(99), x -> x.slip(0, 100, 99, WHEN));
    }

    @Sentence("NONE: (2) not in n.")
    static void onlyWhenIsRefused(Due due) {
        due.is("how many", chain().slip(0, 7, 99, MANY), 4);
        due.is("the greatest", chain().slip(0, 7, 99, GREATEST), 7);
    }

    @Sentence({"BEYOND: rank, v, n, what. NONE: (2) not in n.", "in the order in which they are asked (that of its words)"})
    static void beyondAheadOfNone(Due due) {
        due.refuses("n 100", Due.BEYOND, Promise25SlipTest::chain, x -> x.slip(0, 7, 100, WHEN));
    }

    @Sentence("how many RANKS (it, too)")
    static void allOf24(Due due) {
        LongColumn x = Due.of("feet 24 every 1");
        x.rule(3, 500);
        // the others by 230 by 23, by half: 5; it itself to 230 less 109 instead of 5
        due.is("how many", x.slip(0, 230, 1, MANY), 24);
        due.is("the greatest", x.slip(0, 230, 1, GREATEST), 116);
        due.is("the last slips", x.slip(23, 230, 1, MANY), 24);
    }

    @Sentence({"If OUT of a RANK was", "(nothing changes)"})
    static void nothingChanges(Due due) {
        LongColumn x = Due.some();
        String before = Seen.of(x);
        for (int what = 0; what <= 2; what++) {
            x.slip(2, -40, 99, what);
        }
        due.holds("as it was", Seen.of(x).equals(before));
    }
}
