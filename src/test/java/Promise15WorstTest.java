/** Promise 15: worst. */
public final class Promise15WorstTest {
    private static final int OUT = 5;

    public static void main(String[] args) {
        Promise.run(Promise15WorstTest.class);
    }

    @Sentence({"WORST behind a MARCH of n PACES (0 to 200).", "WORST: the greatest amount of OUT."})
    static void eitherWay(Due due) {
        LongColumn x = Due.of("free 1 every 1 drift 1;keep 1 every 1");
        x.change(1, OUT, -7);
        due.is("behind 0", x.worst(0), 7);
        due.is("behind 7", x.worst(7), 7);
        due.is("behind 8", x.worst(8), 8);
    }

    @Sentence("WORST: the greatest amount of OUT.")
    static void theGreatestThereIs(Due due) {
        LongColumn x = Due.of("keep 2 every 1");
        due.is("nobody is out", x.worst(0), 0);
        x.change(0, OUT, -249);
        due.is("just above half below 0", x.worst(0), 249);
        x.change(1, OUT, 250);
        due.is("half a PACE", x.worst(0), 250);
        x.rule(0, 2000);
        x.change(1, OUT, 1000);
        due.is("half of the longest", x.worst(0), 1000);
    }

    @Sentence("WORST behind a MARCH of n PACES (0 to 200).")
    static void allOf200(Due due) {
        due.is("200", Due.of("free 1 every 1 drift 1").worst(200), 200);
    }

    @Sentence({"n PACES (0 to 200)", "BEYOND."})
    static void nTooSmall(Due due) {
        due.refuses("-1", Due.BEYOND, Due::some, x -> x.worst(-1));
        due.refuses("far", Due.BEYOND, Due::some, x -> x.worst(Due.MIN));
    }

    @Sentence({"n PACES (0 to 200)", "BEYOND."})
    static void nTooLarge(Due due) {
        due.refuses("201", Due.BEYOND, Due::some, x -> x.worst(201));
        due.refuses("far", Due.BEYOND, Due::some, x -> x.worst(Due.MAX));
    }

    @Sentence("NONE: there are no RANKS.")
    static void noRanks(Due due) {
        due.refuses("0", Due.NONE, LongColumn::new, x -> x.worst(0));
        due.refuses("200", Due.NONE, LongColumn::new, x -> x.worst(200));
    }

    @Sentence({"BEYOND. NONE: there are no RANKS.", "in the order in which they are asked (that of its words)"})
    static void beyondAheadOfNone(Due due) {
        due.refuses("-1", Due.BEYOND, LongColumn::new, x -> x.worst(-1));
        due.refuses("201", Due.BEYOND, LongColumn::new, x -> x.worst(201));
    }

    @Sentence("(nothing changes)")
    static void nothingChanges(Due due) {
        LongColumn x = Due.some();
        String before = Seen.of(x);
        x.worst(200);
        due.holds("as it was", Seen.of(x).equals(before));
    }

    @Sentence("WORST: the greatest amount of OUT.")
    static void theLastOf24(Due due) {
        LongColumn x = Due.of("keep 24 every 1");
        x.change(23, OUT, -9);
        due.is("the last", x.worst(0), 9);
    }
}
