/** Promise 13: tread. */
public final class Promise13TreadTest {
    private static final int OUT = 5;

    public static void main(String[] args) {
        Promise.run(Promise13TreadTest.class);
    }

    @Sentence("n PACES (1 to 99) are trodden: WORST.")
    static void oneAndMore(Due due) {
        LongColumn x = Due.of("free 1 every 1 drift 9;keep 1 every 1");
        x.change(1, OUT, -20);
        due.is("1", x.tread(1), 20);
        due.outs("9 by one", x, 9, -20);
        due.is("2 more", x.tread(2), 27);
        due.outs("27 by three", x, 27, -20);
    }

    @Sentence("n PACES (1 to 99) are trodden")
    static void ninetyNine(Due due) {
        LongColumn x = Due.of("free 1 every 1 drift 2");
        due.is("99", x.tread(99), 198);
        due.outs("198", x, 198);
    }

    @Sentence({"n PACES (1 to 99)", "BEYOND."})
    static void nTooSmall(Due due) {
        due.refuses("0", Due.BEYOND, Due::some, x -> x.tread(0));
        due.refuses("-1", Due.BEYOND, Due::some, x -> x.tread(-1));
        due.refuses("far", Due.BEYOND, Due::some, x -> x.tread(Due.MIN));
    }

    @Sentence({"n PACES (1 to 99)", "BEYOND."})
    static void nTooLarge(Due due) {
        due.refuses("100", Due.BEYOND, Due::some, x -> x.tread(100));
        due.refuses("far", Due.BEYOND, Due::some, x -> x.tread(Due.MAX));
    }

    @Sentence("NONE: there are no RANKS.")
    static void noRanks(Due due) {
        due.refuses("1", Due.NONE, LongColumn::new, x -> x.tread(1));
        due.refuses("99", Due.NONE, LongColumn::new, x -> x.tread(99));
    }

    @Sentence({"BEYOND. NONE: there are no RANKS.", "in the order in which they are asked (that of its words)"})
    static void beyondAheadOfNone(Due due) {
        due.refuses("0", Due.BEYOND, LongColumn::new, x -> x.tread(0));
        due.refuses("100", Due.BEYOND, LongColumn::new, x -> x.tread(100));
    }

    @Sentence("A PACE is trodden: OUT of each RANK becomes WRAPPED (OUT and TURN)")
    static void goesRound(Due due) {
        int[] out = {200, 201, -200, -199, 250, -249};
        int[] drift = {50, 50, -50, -50, 99, -99};
        int[] then = {250, -249, 250, -249, -151, 152};
        for (int i = 0; i < out.length; i++) {
            LongColumn x = Due.of("free 1 every 1");
            x.change(0, OUT, out[i]);
            x.change(0, 4, drift[i]);
            due.is(out[i] + " and " + drift[i], x.tread(1), Math.abs(then[i]));
            due.outs(out[i] + " and " + drift[i], x, then[i]);
        }
    }

    @Sentence("all at once.")
    static void allAtOnce(Due due) {
        LongColumn x = Due.of("keep 1 every 1;eye 3 every 1 part 100");
        x.change(0, OUT, 40);
        x.tread(1);
        due.outs("the next one alone has seen it", x, 40, 40, 0, 0);
        x.tread(1);
        due.outs("then the next", x, 40, 40, 40, 0);
        x.tread(1);
        due.outs("then the last", x, 40, 40, 40, 40);
    }

    @Sentence("all at once.")
    static void allAtOnceByTheOneBehind(Due due) {
        LongColumn x = Due.of("feet 2 every 11 part 100");
        // each feels the other one's OUT of before, 10 ticks late
        x.change(0, OUT, 30);
        x.tread(1);
        due.outs("each as the other one was", x, 10, 40);
        x.tread(1);
        due.outs("and again", x, 50, 20);
    }

    @Sentence("OUT of each RANK becomes")
    static void allOf24(Due due) {
        LongColumn x = Due.of("free 24 every 200 drift 1");
        due.is("WORST", x.tread(3), 3);
        for (int rank = 0; rank < 24; rank++) {
            due.is("OUT of " + rank, x.rankOf(rank, OUT), 3);
        }
    }
}
