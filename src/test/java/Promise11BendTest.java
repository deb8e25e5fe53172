/** Promise 11: bend. */
public final class Promise11BendTest {
    public static void main(String[] args) {
        Promise.run(Promise11BendTest.class);
    }

    private static LongColumn six() {
        LongColumn x = Due.of("keep 3 every 5");
        for (int bend = 0; bend < 6; bend++) {
            x.bend(0);
        }
        return x;
    }

    @Sentence("One more BEND: how many.")
    static void howMany(Due due) {
        LongColumn x = new LongColumn();
        due.is("one", x.bend(5), 1);
        due.is("another one there", x.bend(5), 2);
        due.is("two", x.count(2), 2);
    }

    @Sentence("One more BEND")
    static void whereItIs(Due due) {
        LongColumn x = Due.of("keep 4 every 55");
        x.bend(60);
        due.is("ahead of it by hand", x.begin(2, 1), 20);
        due.is("behind it by mouth", x.begin(2, 2), 170);
        x.bend(164);
        due.is("behind the other one, too", x.begin(2, 3), 320);
    }

    @Sentence("places (0 to 4999).")
    static void atTheEnds(Due due) {
        LongColumn x = Due.of("keep 2 every 55");
        due.is("the first place", x.bend(0), 1);
        due.is("it is between", x.begin(2, 1), 150);
        due.is("the last place", x.bend(4999), 2);
    }

    @Sentence({"BEYOND.", "places (0 to 4999)."})
    static void placeTooSmall(Due due) {
        due.refuses("-1", Due.BEYOND, Due::some, x -> x.bend(-1));
        due.refuses("far", Due.BEYOND, Due::some, x -> x.bend(Due.MIN));
    }

    @Sentence({"BEYOND.", "places (0 to 4999)."})
    static void placeTooLarge(Due due) {
        due.refuses("5000", Due.BEYOND, Due::some, x -> x.bend(5000));
        due.refuses("far", Due.BEYOND, Due::some, x -> x.bend(Due.MAX));
    }

    @Sentence({"BENDS (at most 6)", "FULL."})
    static void sixHaveRoom(Due due) {
        LongColumn x = new LongColumn();
        for (int bend = 1; bend <= 6; bend++) {
            due.is("how many", x.bend(bend), bend);
        }
        due.is("six", x.count(2), 6);
    }

    @Sentence({"BENDS (at most 6)", "FULL."})
    static void oneTooMany(Due due) {
        due.refuses("the seventh", Due.FULL, Promise11BendTest::six, x -> x.bend(7));
    }

    @Sentence({"BEYOND. FULL.", "in the order in which they are asked (that of its words)"})
    static void beyondAheadOfFull(Due due) {
        due.refuses("-1", Due.BEYOND, Promise11BendTest::six, x -> x.bend(-1));
        due.refuses("5000", Due.BEYOND, Promise11BendTest::six, x -> x.bend(5000));
    }
}
