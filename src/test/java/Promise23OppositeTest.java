/** Promise 23: opposite. */
public final class Promise23OppositeTest {
    public static void main(String[] args) {
        Promise.run(Promise23OppositeTest.class);
    }

    /** Whether RANK 0 is OPPOSITE with its DRUM so many feet off. */
    private static int with(int feet, int pace, int ahead) {
        LongColumn x = Due.of("keep 1 every 1");
        x.rule(0, pace);
        x.drum(feet, 99, ahead);
        return x.opposite(0);
    }

    @Sentence({"1 if a RANK is OPPOSITE, else 0.",
        "OPPOSITE is a RANK, if LAG from its DRUM (AHEAD not), WRAPPED, times 4 is PACE or more (either way)."})
    static void atAQuarter(Due due) {
        due.is("LAG 0", with(0, 500, 0), 0);
        due.is("LAG 124", with(137, 500, 0), 0);
        due.is("LAG 125", with(138, 500, 0), 1);
        due.is("LAG 250", with(275, 500, 0), 1);
    }

    @Sentence("WRAPPED, times 4 is PACE or more (either way)")
    static void eitherWay(Due due) {
        due.is("LAG 375 is -125", with(413, 500, 0), 1);
        due.is("LAG 376 is -124", with(414, 500, 0), 0);
        due.is("LAG 500 is 0", with(550, 500, 0), 0);
        due.is("LAG 625 is 125", with(688, 500, 0), 1);
    }

    @Sentence("times 4 is PACE or more")
    static void byAnOddPace(Due due) {
        due.is("25 times 4 is 100", with(28, 101, 0), 0);
        due.is("26 times 4 is 104", with(29, 101, 0), 1);
        due.is("25 times 4 is PACE", with(28, 100, 0), 1);
        due.is("499 times 4 is below PACE", with(549, 2000, 0), 0);
        due.is("500 times 4 is PACE", with(550, 2000, 0), 1);
    }

    @Sentence("(AHEAD not)")
    static void aheadIsNotAsked(Due due) {
        due.is("AHEAD 250", with(0, 500, 250), 0);
        due.is("AHEAD -125", with(0, 500, -125), 0);
        due.is("AHEAD 125", with(138, 500, 125), 1);
    }

    @Sentence("BEYOND.")
    static void rankTooSmall(Due due) {
        due.refuses("-1", Due.BEYOND, Due::some, x -> x.opposite(-1));
        due.refuses("far", Due.BEYOND, Due::some, x -> x.opposite(Due.MIN));
    }

    @Sentence("BEYOND.")
    static void rankTooLarge(Due due) {
        due.refuses("3 of 3", Due.BEYOND, Due::some, x -> x.opposite(3));
        due.refuses("0 of none", Due.BEYOND, LongColumn::new, x -> x.opposite(0));
        due.refuses("24 of 24", Due.BEYOND, () -> Due.of("ear 24 every 1"), x -> x.opposite(24));
        due.refuses("far", Due.BEYOND, Due::some, x -> x.opposite(Due.MAX));
    }

    private static LongColumn tooFaint() {
        LongColumn x = Due.of("ear 1 every 1");
        x.drum(50, 1, 0);
        return x;
    }

    @Sentence("NONE: it has no DRUM.")
    static void noDrum(Due due) {
        due.refuses("there is none", Due.NONE, () -> Due.of("ear 2 every 1"), x -> x.opposite(1));
        due.refuses("none is heard", Due.NONE, Promise23OppositeTest::tooFaint, x -> x.opposite(0));
    }

    @Sentence({"BEYOND. NONE: it has no DRUM.", "in the order in which they are asked (that of its words)"})
    static void beyondAheadOfNone(Due due) {
        due.refuses("1 of 1", Due.BEYOND, Promise23OppositeTest::tooFaint, x -> x.opposite(1));
    }

    @Sentence("1 if a RANK is OPPOSITE")
    static void theLastOf24(Due due) {
        LongColumn x = Due.of("keep 23 every 1;keep 1 every 138");
        x.drum(22, 99, 0);
        due.is("the one at the DRUM", x.opposite(22), 0);
        due.is("the last", x.opposite(23), 1);
    }
}
