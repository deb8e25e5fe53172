/** Promise 12: lag. */
public final class Promise12LagTest {
    public static void main(String[] args) {
        Promise.run(Promise12LagTest.class);
    }

    @Sentence("LAG from a place to another one (0 to 4999 each).")
    static void ofTheSamePlace(Due due) {
        LongColumn x = new LongColumn();
        due.is("0", x.lag(0, 0), 0);
        due.is("17", x.lag(17, 17), 0);
        due.is("4999", x.lag(4999, 4999), 0);
    }

    @Sentence({"LAG from a place to another one: their distance times 1000, by SPEED and WIND,", "Quotients are cut."})
    static void isCut(Due due) {
        LongColumn x = new LongColumn();
        due.is("1000 by 1100", x.lag(0, 1), 0);
        due.is("2000 by 1100", x.lag(0, 2), 1);
        due.is("11000 by 1100", x.lag(0, 11), 10);
        due.is("57000 by 1100", x.lag(3, 60), 51);
        due.is("57000 by 1100, back", x.lag(60, 3), 51);
    }

    @Sentence("if it goes towards greater places, else by SPEED less WIND.")
    static void byWind(Due due) {
        LongColumn x = new LongColumn();
        x.rule(2, 100);
        due.is("with it, by 1200", x.lag(0, 120), 100);
        due.is("against it, by 1000", x.lag(120, 0), 120);
        x.rule(2, -100);
        due.is("against it, by 1000", x.lag(0, 120), 120);
        due.is("with it, by 1200", x.lag(120, 0), 100);
    }

    @Sentence({"(0 to 4999 each).", "SPEED (500 to 2000 feet in 1000 ticks; 1100 at first), WIND (-200 to 200; 0 at first)."})
    static void allTheWay(Due due) {
        LongColumn x = new LongColumn();
        x.rule(1, 500);
        x.rule(2, 200);
        due.is("the slowest, with WIND", x.lag(0, 4999), 7141);
        due.is("the slowest, against it", x.lag(4999, 0), 16663);
        x.rule(2, -200);
        due.is("the slowest, against the other WIND", x.lag(0, 4999), 16663);
        due.is("the slowest, with the other WIND", x.lag(4999, 0), 7141);
        x.rule(1, 2000);
        due.is("the fastest, against it", x.lag(0, 4999), 2777);
        due.is("the fastest, with it", x.lag(4999, 0), 2272);
    }

    @Sentence("BEYOND.")
    static void tooSmall(Due due) {
        due.refuses("from -1", Due.BEYOND, Due::some, x -> x.lag(-1, 0));
        due.refuses("to -1", Due.BEYOND, Due::some, x -> x.lag(0, -1));
        due.refuses("from far", Due.BEYOND, Due::some, x -> x.lag(Due.MIN, 0));
        due.refuses("to far", Due.BEYOND, Due::some, x -> x.lag(0, Due.MIN));
    }

    @Sentence("BEYOND.")
    static void tooLarge(Due due) {
        due.refuses("from 5000", Due.BEYOND, Due::some, x -> x.lag(5000, 0));
        due.refuses("to 5000", Due.BEYOND, Due::some, x -> x.lag(0, 5000));
        due.refuses("from far", Due.BEYOND, Due::some, x -> x.lag(Due.MAX, 0));
        due.refuses("to far", Due.BEYOND, Due::some, x -> x.lag(0, Due.MAX));
    }
}
