/** Promise 32: hold. */
public final class Promise32HoldTest {
    public static void main(String[] args) {
        Promise.run(Promise32HoldTest.class);
    }

    @Sentence("A SPOT holds a RANK, or nothing (-1): 1.")
    static void aRank(Due due) {
        LongColumn x = Due.of("ear 2 every 1");
        due.is("RANK 1", x.hold(4, 1), 1);
        due.is("it is held", x.as(4, 0), 1);
        due.is("another one instead", x.hold(4, 0), 1);
        due.is("that is held", x.as(4, 0), 0);
        due.is("the same in another SPOT", x.hold(5, 0), 1);
        due.is("two hold one", x.count(5), 2);
    }

    @Sentence("or nothing (-1)")
    static void nothing(Due due) {
        LongColumn x = Due.of("ear 2 every 1");
        x.hold(4, 1);
        due.is("nothing", x.hold(4, -1), 1);
        due.is("none is held", x.as(4, 0), Due.MISSING);
        due.is("nothing once more", x.hold(4, -1), 1);
        due.is("without RANKS", new LongColumn().hold(9, -1), 1);
    }

    @Sentence("SPOTS 0 to 9")
    static void theFirstAndTheLastSpot(Due due) {
        LongColumn x = Due.of("ear 2 every 1");
        due.is("0", x.hold(0, 1), 1);
        due.is("9", x.hold(9, 0), 1);
        due.is("held by 0", x.as(0, 0), 1);
        due.is("held by 9", x.as(9, 0), 0);
        due.is("not by 1", x.as(1, 0), Due.MISSING);
        due.is("not by 8", x.as(8, 0), Due.MISSING);
    }

    @Sentence({"SPOTS 0 to 9", "BEYOND."})
    static void spotTooSmall(Due due) {
        due.refuses("-1", Due.BEYOND, Due::some, x -> x.hold(-1, 0));
        due.refuses("-1, nothing", Due.BEYOND, Due::some, x -> x.hold(-1, -1));
        due.refuses("far", Due.BEYOND, Due::some, x -> x.hold(Due.MIN, 0));
    }

    @Sentence({"SPOTS 0 to 9", "BEYOND."})
    static void spotTooLarge(Due due) {
        due.refuses("10", Due.BEYOND, Due::some, x -> x.hold(10, 0));
        due.refuses("10, nothing", Due.BEYOND, Due::some, x -> x.hold(10, -1));
        due.refuses("far", Due.BEYOND, Due::some, x -> x.hold(Due.MAX, 0));
    }

    @Sentence("BEYOND.")
    static void rankTooSmall(Due due) {
        due.refuses("-2", Due.BEYOND, Due::some, x -> x.hold(1, -2));
        due.refuses("far", Due.BEYOND, Due::some, x -> x.hold(1, Due.MIN));
    }

    @Sentence("BEYOND.")
    static void rankTooLarge(Due due) {
        due.refuses("3 of 3", Due.BEYOND, Due::some, x -> x.hold(1, 3));
        due.refuses("24 of 24", Due.BEYOND, () -> Due.of("ear 24 every 1"), x -> x.hold(1, 24));
        due.refuses("0 of none", Due.BEYOND, LongColumn::new, x -> x.hold(1, 0));
        due.refuses("far", Due.BEYOND, Due::some, x -> x.hold(1, Due.MAX));
    }

    @Sentence("A SPOT holds a RANK")
    static void theLastOf24InAllSpots(Due due) {
        LongColumn x = Due.of("ear 24 every 1");
        for (int spot = 0; spot <= 9; spot++) {
            x.hold(spot, 23 - spot);
        }
        for (int spot = 0; spot <= 9; spot++) {
            due.is("SPOT " + spot, x.as(spot, 0), 23 - spot);
        }
    }
}
