/** Promise 8: drum. */
public final class Promise08DrumTest {
    public static void main(String[] args) {
        Promise.run(Promise08DrumTest.class);
    }

    private static LongColumn six() {
        LongColumn x = Due.of("ear 2 every 5");
        for (int drum = 0; drum < 6; drum++) {
            x.drum(drum, 10 + drum, -drum);
        }
        return x;
    }

    @Sentence("A new DRUM: its number.")
    static void itsNumber(Due due) {
        LongColumn x = new LongColumn();
        due.is("the first", x.drum(5, 6, 7), 0);
        due.is("one like it", x.drum(5, 6, 7), 1);
        due.is("how many", x.count(1), 2);
    }

    @Sentence("AT a place (0 to 4999)")
    static void at(Due due) {
        LongColumn x = new LongColumn();
        x.drum(0, 1, 0);
        x.drum(4999, 1, 0);
        due.is("the least", x.drumOf(0, 0), 0);
        due.is("the most", x.drumOf(1, 0), 4999);
        due.refuses("-1", Due.BEYOND, Due::some, y -> y.drum(-1, 1, 0));
        due.refuses("5000", Due.BEYOND, Due::some, y -> y.drum(5000, 1, 0));
        due.refuses("far below", Due.BEYOND, Due::some, y -> y.drum(Due.MIN, 1, 0));
        due.refuses("far above", Due.BEYOND, Due::some, y -> y.drum(Due.MAX, 1, 0));
    }

    @Sentence("LOUD (1 to 99)")
    static void loud(Due due) {
        LongColumn x = new LongColumn();
        x.drum(0, 1, 0);
        x.drum(0, 99, 0);
        due.is("the least", x.drumOf(0, 1), 1);
        due.is("the most", x.drumOf(1, 1), 99);
        due.refuses("0", Due.BEYOND, Due::some, y -> y.drum(0, 0, 0));
        due.refuses("100", Due.BEYOND, Due::some, y -> y.drum(0, 100, 0));
        due.refuses("far below", Due.BEYOND, Due::some, y -> y.drum(0, Due.MIN, 0));
        due.refuses("far above", Due.BEYOND, Due::some, y -> y.drum(0, Due.MAX, 0));
    }

    @Sentence("AHEAD by ticks (-999 to 999).")
    static void ahead(Due due) {
        LongColumn x = new LongColumn();
        x.drum(0, 1, -999);
        x.drum(0, 1, 999);
        due.is("the least", x.drumOf(0, 2), -999);
        due.is("the most", x.drumOf(1, 2), 999);
        due.refuses("-1000", Due.BEYOND, Due::some, y -> y.drum(0, 1, -1000));
        due.refuses("1000", Due.BEYOND, Due::some, y -> y.drum(0, 1, 1000));
        due.refuses("far below", Due.BEYOND, Due::some, y -> y.drum(0, 1, Due.MIN));
        due.refuses("far above", Due.BEYOND, Due::some, y -> y.drum(0, 1, Due.MAX));
    }

    @Sentence({"DRUMS 0, 1, .. (at most 6)", "FULL."})
    static void sixHaveRoom(Due due) {
        LongColumn x = new LongColumn();
        for (int drum = 0; drum < 6; drum++) {
            due.is("its number", x.drum(drum, 1, 0), drum);
        }
        due.is("how many", x.count(1), 6);
        due.is("the last one", x.drumOf(5, 0), 5);
    }

    @Sentence({"DRUMS 0, 1, .. (at most 6)", "FULL."})
    static void oneTooMany(Due due) {
        due.refuses("the seventh", Due.FULL, Promise08DrumTest::six, x -> x.drum(0, 1, 0));
    }

    @Sentence({"BEYOND. FULL.", "in the order in which they are asked (that of its words)"})
    static void beyondAheadOfFull(Due due) {
        due.refuses("at", Due.BEYOND, Promise08DrumTest::six, x -> x.drum(5000, 1, 0));
        due.refuses("loud", Due.BEYOND, Promise08DrumTest::six, x -> x.drum(0, 0, 0));
        due.refuses("ahead", Due.BEYOND, Promise08DrumTest::six, x -> x.drum(0, 1, 1000));
    }
}
