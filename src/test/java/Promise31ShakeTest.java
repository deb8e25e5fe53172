/** Promise 31: shake. */
public final class Promise31ShakeTest {
    private static final int OUT = 5;

    public static void main(String[] args) {
        Promise.run(Promise31ShakeTest.class);
    }

    @Sentence({"Each RANK, by numbers, draws: OUT becomes WRAPPED (OUT, less n, and the rest of the draw by 2 n and 1) "
        + "(n 0 to 999): WORST", "DRAWS: z is told (1 at first); each makes it z * 1103515245 + 12345 (an int), and gives z >>> 8."})
    static void eachDraws(Due due) {
        LongColumn x = Due.of("keep 2 every 1");
        x.change(0, OUT, 100);
        x.change(1, OUT, -240);
        x.seed(0);
        // z: 12345, >>> 8 is 48; then 12345 * 1103515245 + 12345 is -740551042, >>> 8 is 13884438
        due.is("WORST", x.shake(10), 235);
        // 100 less 10 and 48 by 21, -240 less 10 and 13884438 by 21
        due.outs("by 10", x, 96, -235);
        due.is("z", x.count(4), -740551042);
    }

    @Sentence("(an int), and gives z >>> 8.")
    static void zBelow0(Due due) {
        LongColumn x = Due.of("keep 1 every 1");
        x.seed(-1);
        // -1103502900 >>> 8 is 12466657, by 201 34
        due.is("WORST", x.shake(100), 66);
        due.outs("less 100 and 34", x, -66);
        x.seed(Due.MIN);
        x.shake(0);
        due.is("the least z", x.count(4), -2147471303);
        x.seed(Due.MAX);
        x.shake(0);
        due.is("the greatest z", x.count(4), 1043980748);
    }

    @Sentence("(n 0 to 999)")
    static void by0(Due due) {
        LongColumn x = Due.of("keep 2 every 1");
        x.change(0, OUT, 7);
        x.change(1, OUT, -8);
        x.seed(0);
        due.is("WORST", x.shake(0), 8);
        due.outs("as they were", x, 7, -8);
        due.is("they draw, too", x.count(4), -740551042);
    }

    @Sentence({"(n 0 to 999)", "OUT becomes WRAPPED"})
    static void by999(Due due) {
        LongColumn x = Due.of("keep 2 every 1");
        // 4310654 by 1999 is 810, 9862832 by 1999 is 1765
        due.is("WORST", x.shake(999), 234);
        due.outs("-189, and 766 is -234", x, -189, -234);
        x.change(0, OUT, -100);
        x.seed(0);
        x.shake(999);
        // -100 less 999 and 48
        due.is("-1051 is -51", x.rankOf(0, OUT), -51);
    }

    @Sentence("OUT becomes WRAPPED (OUT, less n, and the rest of the draw by 2 n and 1)")
    static void goesRound(Due due) {
        // the rest of 48 by 3 is 0
        int[] out = {-249, -248, 250, 1};
        int[] then = {250, -249, 249, 0};
        for (int i = 0; i < out.length; i++) {
            LongColumn x = Due.of("keep 1 every 1");
            x.change(0, OUT, out[i]);
            x.seed(0);
            x.shake(1);
            due.outs("1 less than " + out[i], x, then[i]);
        }
    }

    @Sentence("(0 without RANKS).")
    static void noRanks(Due due) {
        LongColumn x = new LongColumn();
        due.is("0", x.shake(0), 0);
        due.is("999", x.shake(999), 0);
        due.is("nobody draws", x.count(4), 1);
        due.is("no finding", x.status(-1), 0);
    }

    @Sentence({"(n 0 to 999)", "BEYOND."})
    static void nTooSmall(Due due) {
        due.refuses("-1", Due.BEYOND, Due::some, x -> x.shake(-1));
        due.refuses("far", Due.BEYOND, Due::some, x -> x.shake(Due.MIN));
        due.refuses("without RANKS", Due.BEYOND, LongColumn::new, x -> x.shake(-1));
    }

    @Sentence({"(n 0 to 999)", "BEYOND."})
    static void nTooLarge(Due due) {
        due.refuses("1000", Due.BEYOND, Due::some, x -> x.shake(1000));
        due.refuses("far", Due.BEYOND, Due::some, x -> x.shake(Due.MAX));
        due.refuses("without RANKS", Due.BEYOND, LongColumn::new, x -> x.shake(1000));
    }

    @Sentence("Each RANK, by numbers, draws")
    static void allOf24(Due due) {
        LongColumn x = Due.of("keep 24 every 1");
        LongColumn y = Due.of("keep 1 every 1");
        x.shake(50);
        for (int rank = 0; rank < 24; rank++) {
            y.change(0, OUT, 0);
            y.shake(50);
            due.is("RANK " + rank + " draws behind the one ahead", x.rankOf(rank, OUT), y.rankOf(0, OUT));
        }
        due.is("24 draws", x.count(4), y.count(4));
    }
}
