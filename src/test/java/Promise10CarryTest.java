/** Promise 10: carry. */
public final class Promise10CarryTest {
    public static void main(String[] args) {
        Promise.run(Promise10CarryTest.class);
    }

    @Sentence("A DRUM goes to a place: where it was.")
    static void whereItWas(Due due) {
        LongColumn x = new LongColumn();
        x.drum(7, 8, 9);
        x.drum(10, 11, 12);
        due.is("it was", x.carry(1, 20), 10);
        due.is("it is", x.drumOf(1, 0), 20);
        due.is("LOUD stays", x.drumOf(1, 1), 11);
        due.is("AHEAD stays", x.drumOf(1, 2), 12);
        due.is("the other one stays", x.drumOf(0, 0), 7);
        due.is("where it is", x.carry(1, 20), 20);
    }

    @Sentence({"A DRUM goes to a place", "AT a place (0 to 4999)"})
    static void toTheEnds(Due due) {
        LongColumn x = new LongColumn();
        x.drum(7, 8, 9);
        x.carry(0, 4999);
        due.is("the last place", x.carry(0, 0), 4999);
        due.is("the first place", x.carry(0, 1), 0);
    }

    @Sentence({"BEYOND.", "AT a place (0 to 4999)"})
    static void placeTooSmall(Due due) {
        due.refuses("-1", Due.BEYOND, Due::some, x -> x.carry(0, -1));
        due.refuses("far", Due.BEYOND, Due::some, x -> x.carry(0, Due.MIN));
    }

    @Sentence({"BEYOND.", "AT a place (0 to 4999)"})
    static void placeTooLarge(Due due) {
        due.refuses("5000", Due.BEYOND, Due::some, x -> x.carry(0, 5000));
        due.refuses("far", Due.BEYOND, Due::some, x -> x.carry(0, Due.MAX));
    }

    @Sentence("BEYOND.")
    static void drumTooSmall(Due due) {
        due.refuses("-1", Due.BEYOND, Due::some, x -> x.carry(-1, 0));
        due.refuses("far", Due.BEYOND, Due::some, x -> x.carry(Due.MIN, 0));
    }

    @Sentence("BEYOND.")
    static void drumTooLarge(Due due) {
        due.refuses("2 of 2", Due.BEYOND, Due::some, x -> x.carry(2, 0));
        due.refuses("far", Due.BEYOND, Due::some, x -> x.carry(Due.MAX, 0));
        due.refuses("0 of none", Due.BEYOND, LongColumn::new, x -> x.carry(0, 0));
    }

    @Sentence("A DRUM goes to a place")
    static void theLastOfSix(Due due) {
        LongColumn x = new LongColumn();
        for (int drum = 0; drum < 6; drum++) {
            x.drum(drum, 1, 1);
        }
        due.is("5", x.carry(5, 100), 5);
        due.is("it is", x.drumOf(5, 0), 100);
        due.is("6", x.carry(6, 100), Due.BEYOND);
    }
}
