/** Promise 22: two. */
public final class Promise22TwoTest {
    public static void main(String[] args) {
        Promise.run(Promise22TwoTest.class);
    }

    /** Two DRUMS that are 50 ticks apart. */
    private static LongColumn drums() {
        LongColumn x = new LongColumn();
        x.drum(0, 5, 0);
        x.drum(55, 5, 0);
        return x;
    }

    private static void ahead(Due due, String what, LongColumn x, int n, int one, int other) {
        due.is(what + ", the one", x.two(0, 1, n, 0), one);
        due.is(what + ", the other one", x.two(0, 1, n, 1), other);
    }

    @Sentence({"TWO DRUMS that hear each other: in each step the AHEAD of each is less by what it hears too late:",
        "first the one: AHEAD less WRAPPED (AHEAD of it, and LAG from the other one, less AHEAD of the other one) by 2",
        "then the other one likewise (by the new AHEAD of the one)."})
    static void stepByStep(Due due) {
        // 0 less 50 by 2; 0 less (50 and 25) by 2
        ahead(due, "1", drums(), 1, -25, -37);
        // -25 less (-25 and 50 and 37) by 2; -37 less (-37 and 50 and 56) by 2
        ahead(due, "2", drums(), 2, -56, -71);
        ahead(due, "3", drums(), 3, -88, -104);
        ahead(due, "4", drums(), 4, -121, -137);
        // from here on by 66 and 67, cut by half: 33 in each step
        ahead(due, "5", drums(), 5, -154, -170);
    }

    @Sentence("AHEAD of two DRUMS that hear each other behind n steps (1 to 99): of the one (what 0), the other one (1)")
    static void ninetyNineSteps(Due due) {
        // 95 steps more than 4, by 33 each, also below -999
        ahead(due, "99", drums(), 99, -3256, -3272);
    }

    @Sentence("of the one (what 0), the other one (1)")
    static void theOneIsFirst(Due due) {
        LongColumn x = drums();
        due.is("the one is 1", x.two(1, 0, 1, 0), -25);
        due.is("the other one is 0", x.two(1, 0, 1, 1), -37);
    }

    @Sentence("by 2 (that alone, cut)")
    static void isCut(Due due) {
        LongColumn x = new LongColumn();
        x.drum(7, 5, 1);
        x.drum(7, 5, 0);
        // 1 by 2 is 0, -1 by 2 is 0
        ahead(due, "by 1", x, 99, 1, 0);
        LongColumn y = new LongColumn();
        y.drum(7, 5, -3);
        y.drum(7, 5, 0);
        // -3 by 2 is -1, then 2 by 2
        ahead(due, "by 3", y, 1, -2, -1);
    }

    @Sentence("WRAPPED (AHEAD of it, and LAG from the other one, less AHEAD of the other one)")
    static void goesRound(Due due) {
        LongColumn x = new LongColumn();
        x.drum(7, 5, 250);
        x.drum(7, 5, 0);
        // half a PACE: 125 less; the other one by -125, cut upwards
        ahead(due, "250", x, 1, 125, 62);
        LongColumn y = new LongColumn();
        y.drum(7, 5, 251);
        y.drum(7, 5, 0);
        // 251 is -249: its half, cut, is -124; then -375 is 125
        ahead(due, "251, and AHEAD itself is not WRAPPED", y, 1, 375, -62);
        LongColumn z = new LongColumn();
        z.drum(7, 5, -999);
        z.drum(7, 5, 999);
        // -1998 is 2; then 1999 is -1
        ahead(due, "the ends", z, 1, -1000, 999);
    }

    @Sentence("LAG from the other one")
    static void byWind(Due due) {
        LongColumn x = drums();
        x.rule(2, 200);
        // LAG 61 against WIND to the one, 42 with it to the other one: 0 less 30, 0 less 72 by 2
        ahead(due, "WIND 200", x, 1, -30, -36);
    }

    @Sentence("nothing changes.")
    static void nothingChanges(Due due) {
        LongColumn x = Due.some();
        String before = Seen.of(x);
        x.two(0, 1, 99, 0);
        x.two(1, 0, 1, 1);
        due.holds("as it was", Seen.of(x).equals(before));
    }

    @Sentence("behind n steps (1 to 99)")
    static void nTooSmall(Due due) {
        due.refuses("0", Due.BEYOND, Due::some, x -> x.two(0, 1, 0, 0));
        due.refuses("-1", Due.BEYOND, Due::some, x -> x.two(0, 1, -1, 0));
        due.refuses("far", Due.BEYOND, Due::some, x -> x.two(0, 1, Due.MIN, 0));
    }

    @Sentence("behind n steps (1 to 99)")
    static void nTooLarge(Due due) {
        due.refuses("100", Due.BEYOND, Due::some, x -> x.two(0, 1, 100, 0));
        due.refuses("far", Due.BEYOND, Due::some, x -> x.two(0, 1, Due.MAX, 0));
    }

    @Sentence("BEYOND: drums (also one and the same), n, what.")
    static void oneAndTheSame(Due due) {
        due.refuses("0", Due.BEYOND, Due::some, x -> x.two(0, 0, 1, 0));
        due.refuses("1", Due.BEYOND, Due::some, x -> x.two(1, 1, 1, 0));
    }

    @Sentence("BEYOND: drums (also one and the same), n, what.")
    static void drumTooSmall(Due due) {
        due.refuses("one -1", Due.BEYOND, Due::some, x -> x.two(-1, 0, 1, 0));
        due.refuses("other -1", Due.BEYOND, Due::some, x -> x.two(0, -1, 1, 0));
        due.refuses("far", Due.BEYOND, Due::some, x -> x.two(Due.MIN, Due.MAX, 1, 0));
    }

    @Sentence("BEYOND: drums (also one and the same), n, what.")
    static void drumTooLarge(Due due) {
        due.refuses("one 2 of 2", Due.BEYOND, Due::some, x -> x.two(2, 0, 1, 0));
        due.refuses("other 2 of 2", Due.BEYOND, Due::some, x -> x.two(0, 2, 1, 0));
        due.refuses("none", Due.BEYOND, LongColumn::new, x -> x.two(0, 1, 1, 0));
    }

    @Sentence({"of the one (what 0), the other one (1)", "n, what."})
    static void otherWhat(Due due) {
        due.refuses("-1", Due.BEYOND, Due::some, x -> x.two(0, 1, 1, -1));
        due.refuses("2", Due.BEYOND, Due::some, x -> x.two(0, 1, 1, 2));
        due.refuses("far below", Due.BEYOND, Due::some, x -> x.two(0, 1, 1, Due.MIN));
        due.refuses("far above", Due.BEYOND, Due::some, x -> x.two(0, 1, 1, Due.MAX));
    }
}
