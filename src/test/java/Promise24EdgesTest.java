/** Promise 24: edges. */
public final class Promise24EdgesTest {
    private static final int MANY = 0;
    private static final int LEAST = 1;

    public static void main(String[] args) {
        Promise.run(Promise24EdgesTest.class);
    }

    /** RANK 0 with its DRUM so many feet off. */
    private static LongColumn with(int feet) {
        LongColumn x = Due.of("keep 1 every 1");
        x.drum(feet, 99, 77);
        return x;
    }

    @Sentence("PACES from low to high (100 to 2000, low at most high): what 0 how many there are at which a RANK would be "
            + "OPPOSITE, 1 the least of these.")
    static void howManyAndTheLeast(Due due) {
        // LAG 100: at 133 it is -33, times 4 132; at 134 -34, times 4 136; up to 400
        LongColumn x = with(110);
        due.is("how many", x.edges(0, 100, 2000, MANY), 267);
        due.is("the least", x.edges(0, 100, 2000, LEAST), 134);
        due.is("up to 134", x.edges(0, 100, 134, MANY), 1);
        due.is("from 400", x.edges(0, 400, 2000, MANY), 1);
        due.is("the least from 200", x.edges(0, 200, 2000, LEAST), 200);
    }

    @Sentence("PACES from low to high (100 to 2000, low at most high)")
    static void lowIsHigh(Due due) {
        LongColumn x = with(110);
        due.is("133", x.edges(0, 133, 133, MANY), 0);
        due.is("134", x.edges(0, 134, 134, MANY), 1);
        due.is("134, the least", x.edges(0, 134, 134, LEAST), 134);
        due.is("400", x.edges(0, 400, 400, MANY), 1);
        due.is("401", x.edges(0, 401, 401, MANY), 0);
    }

    @Sentence("(100 to 2000, low at most high)")
    static void theFirstAndTheLastPace(Due due) {
        // LAG 25 and 24, LAG 500 and 499
        due.is("100, a quarter", with(28).edges(0, 100, 100, LEAST), 100);
        due.is("100, less", with(27).edges(0, 100, 100, MANY), 0);
        due.is("2000, a quarter", with(550).edges(0, 2000, 2000, LEAST), 2000);
        due.is("2000, less", with(549).edges(0, 2000, 2000, MANY), 0);
    }

    @Sentence("BEYOND: rank, low, high, what.")
    static void lowTooSmall(Due due) {
        due.refuses("99", Due.BEYOND, Due::some, x -> x.edges(0, 99, 200, MANY));
        due.refuses("far", Due.BEYOND, Due::some, x -> x.edges(0, Due.MIN, 200, MANY));
    }

    @Sentence("BEYOND: rank, low, high, what.")
    static void lowTooLarge(Due due) {
        due.refuses("2001", Due.BEYOND, Due::some, x -> x.edges(0, 2001, 2001, MANY));
        due.refuses("2001 to 2000", Due.BEYOND, Due::some, x -> x.edges(0, 2001, 2000, MANY));
        due.refuses("far", Due.BEYOND, Due::some, x -> x.edges(0, Due.MAX, Due.MAX, MANY));
    }

    @Sentence("BEYOND: rank, low, high, what.")
    static void highTooLarge(Due due) {
        due.refuses("2001", Due.BEYOND, Due::some, x -> x.edges(0, 100, 2001, MANY));
        due.refuses("far", Due.BEYOND, Due::some, x -> x.edges(0, 100, Due.MAX, MANY));
    }

    @Sentence("low at most high")
    static void highBelowLow(Due due) {
        due.refuses("200 to 199", Due.BEYOND, Due::some, x -> x.edges(0, 200, 199, MANY));
        due.refuses("100 to 99", Due.BEYOND, Due::some, x -> x.edges(0, 100, 99, MANY));
        due.refuses("100 to far below", Due.BEYOND, Due::some, x -> x.edges(0, 100, Due.MIN, MANY));
    }

    @Sentence({"what 0 how many there are", "BEYOND: rank, low, high, what."})
    static void otherWhat(Due due) {
        due.refuses("-1", Due.BEYOND, Due::some, x -> x.edges(0, 100, 200, -1));
        due.refuses("2", Due.BEYOND, Due::some, x -> x.edges(0, 100, 200, 2));
        due.refuses("far below", Due.BEYOND, Due::some, x -> x.edges(0, 100, 200, Due.MIN));
        due.refuses("far above", Due.BEYOND, Due::some, x -> x.edges(0, 100, 200, Due.MAX));
    }

    @Sentence("BEYOND: rank, low, high, what.")
    static void rankTooSmall(Due due) {
        due.refuses("-1", Due.BEYOND, Due::some, x -> x.edges(-1, 100, 200, MANY));
        due.refuses("far", Due.BEYOND, Due::some, x -> x.edges(Due.MIN, 100, 200, MANY));
    }

    @Sentence("BEYOND: rank, low, high, what.")
    static void rankTooLarge(Due due) {
        due.refuses("3 of 3", Due.BEYOND, Due::some, x -> x.edges(3, 100, 200, MANY));
        due.refuses("0 of none", Due.BEYOND, LongColumn::new, x -> x.edges(0, 100, 200, MANY));
        due.refuses("far", Due.BEYOND, Due::some, x -> x.edges(Due.MAX, 100, 200, MANY));
    }

    @Sentence("NONE: it has no DRUM")
    static void noDrum(Due due) {
        due.refuses("how many", Due.NONE, () -> Due.of("ear 2 every 1"), x -> x.edges(1, 100, 2000, MANY));
        due.refuses("the least", Due.NONE, () -> Due.of("ear 2 every 1"), x -> x.edges(1, 100, 2000, LEAST));
        due.refuses("none is heard", Due.NONE, () -> with(4950), x -> x.edges(0, 100, 2000, MANY));
    }

    @Sentence("there is none (what 1).")
    static void noneIsTheLeast(Due due) {
        due.refuses("LAG 0", Due.NONE, () -> with(0), x -> x.edges(0, 100, 2000, LEAST));
        due.refuses("up to 133", Due.NONE, () -> with(110), x -> x.edges(0, 100, 133, LEAST));
        due.refuses("from 401", Due.NONE, () -> with(110), x -> x.edges(0, 401, 2000, LEAST));
        LongColumn x = with(0);
        due.is("how many of none", x.edges(0, 100, 2000, MANY), 0);
        due.is("that is no finding", x.status(-1), 0);
    }

    @Sentence({"BEYOND: rank, low, high, what. NONE: it has no DRUM", "in the order in which they are asked (that of its words)"})
    static void beyondAheadOfNone(Due due) {
        due.refuses("low", Due.BEYOND, () -> Due.of("ear 2 every 1"), x -> x.edges(1, 99, 2000, MANY));
        due.refuses("what", Due.BEYOND, () -> Due.of("ear 2 every 1"), x -> x.edges(1, 100, 2000, 2));
    }

    @Sentence("at which a RANK would be OPPOSITE")
    static void nothingChanges(Due due) {
        LongColumn x = Due.some();
        String before = Seen.of(x);
        x.edges(2, 100, 2000, MANY);
        x.edges(2, 100, 2000, LEAST);
        due.holds("as it was, PACE too", Seen.of(x).equals(before));
    }
}
