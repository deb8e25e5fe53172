/** Promise 9: drumOf. */
public final class Promise09DrumOfTest {
    public static void main(String[] args) {
        Promise.run(Promise09DrumOfTest.class);
    }

    @Sentence("Of a DRUM: what 0 its place, 1 LOUD, 2 AHEAD.")
    static void eachWhat(Due due) {
        LongColumn x = new LongColumn();
        x.drum(7, 8, 9);
        x.drum(10, 11, -12);
        int[] of = {7, 8, 9, 10, 11, -12};
        for (int i = 0; i < of.length; i++) {
            due.is("what " + i % 3 + " of " + i / 3, x.drumOf(i / 3, i % 3), of[i]);
        }
    }

    @Sentence({"what 0 its place", "BEYOND."})
    static void whatTooSmall(Due due) {
        due.refuses("-1", Due.BEYOND, Due::some, x -> x.drumOf(0, -1));
        due.refuses("far", Due.BEYOND, Due::some, x -> x.drumOf(0, Due.MIN));
    }

    @Sentence({"2 AHEAD", "BEYOND."})
    static void whatTooLarge(Due due) {
        due.refuses("3", Due.BEYOND, Due::some, x -> x.drumOf(0, 3));
        due.refuses("far", Due.BEYOND, Due::some, x -> x.drumOf(0, Due.MAX));
    }

    @Sentence("BEYOND.")
    static void drumTooSmall(Due due) {
        due.refuses("-1", Due.BEYOND, Due::some, x -> x.drumOf(-1, 0));
        due.refuses("far", Due.BEYOND, Due::some, x -> x.drumOf(Due.MIN, 0));
    }

    @Sentence("BEYOND.")
    static void drumTooLarge(Due due) {
        due.refuses("2 of 2", Due.BEYOND, Due::some, x -> x.drumOf(2, 0));
        due.refuses("far", Due.BEYOND, Due::some, x -> x.drumOf(Due.MAX, 0));
        due.refuses("0 of none", Due.BEYOND, LongColumn::new, x -> x.drumOf(0, 0));
    }

    @Sentence("BEYOND.")
    static void drumBehindTheLastOfSix(Due due) {
        LongColumn x = new LongColumn();
        for (int drum = 0; drum < 6; drum++) {
            x.drum(1, 1, 1);
        }
        due.is("5", x.drumOf(5, 0), 1);
        due.is("6", x.drumOf(6, 0), Due.BEYOND);
    }
}
