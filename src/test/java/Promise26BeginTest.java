/** Promise 26: begin. */
public final class Promise26BeginTest {
    private static final int MOUTH = 0;
    private static final int DRUM = 1;
    private static final int HAND = 2;

    public static void main(String[] args) {
        Promise.run(Promise26BeginTest.class);
    }

    private static void begin(Due due, String what, LongColumn x, int way, int... times) {
        for (int rank = 0; rank < times.length; rank++) {
            due.is(what + " " + rank, x.begin(way, rank), times[rank]);
        }
    }

    @Sentence({"When a RANK begins by a way (0 mouth, 1 drum, 2 hand).",
        "ORDERS to begin go by: 0 mouth: RANK 0 hears it at 0, each other one WORD (0 to 999 ticks; 100 at first) and LAG "
        + "from the RANK ahead behind that one"})
    static void byMouth(Due due) {
        LongColumn x = Due.of("keep 4 every 55");
        begin(due, "mouth", x, MOUTH, 0, 150, 300, 450);
        x.bend(55);
        begin(due, "a BEND is no matter", x, MOUTH, 0, 150, 300, 450);
        x.rule(2, 200);
        // LAG 55000 by 1300
        begin(due, "with WIND", x, MOUTH, 0, 142, 284, 426);
        x.rule(2, -200);
        // LAG 55000 by 900
        begin(due, "against WIND", x, MOUTH, 0, 161, 322, 483);
    }

    @Sentence("WORD (0 to 999 ticks; 100 at first)")
    static void wordAtItsEnds(Due due) {
        LongColumn x = Due.of("keep 3 every 11");
        x.rule(5, 0);
        begin(due, "0", x, MOUTH, 0, 10, 20);
        x.rule(5, 999);
        begin(due, "999", x, MOUTH, 0, 1009, 2018);
    }

    @Sentence("1 drum: LAG from its DRUM, less AHEAD (NONE without one)")
    static void byDrum(Due due) {
        LongColumn x = Due.of("keep 4 every 55");
        x.drum(110, 9, 70);
        begin(due, "drum", x, DRUM, 30, -20, -70, -20);
        x.rule(2, 200);
        // back 110000 and 55000 by 900, forth 55000 by 1300
        begin(due, "by WIND", x, DRUM, 52, -9, -70, -28);
    }

    @Sentence("LAG from its DRUM, less AHEAD")
    static void byDrumFarAheadAndFarLate(Due due) {
        LongColumn x = Due.of("keep 1 every 1");
        x.drum(0, 9, 999);
        due.is("AHEAD 999", x.begin(DRUM, 0), -999);
        LongColumn y = Due.of("keep 1 every 1");
        y.drum(4949, 99, -999);
        y.rule(1, 500);
        y.rule(2, 200);
        // 4949000 by 300 and 999, which is not WRAPPED
        due.is("the longest LAG", y.begin(DRUM, 0), 17495);
    }

    @Sentence("(NONE without one)")
    static void noDrum(Due due) {
        due.refuses("there is none", Due.NONE, () -> Due.of("keep 2 every 1"), x -> x.begin(DRUM, 1));
        due.refuses("none is heard", Due.NONE, Promise26BeginTest::faint, x -> x.begin(DRUM, 1));
        due.is("the one ahead hears it", faint().begin(DRUM, 0), 0);
    }

    private static LongColumn faint() {
        LongColumn x = Due.of("keep 2 every 50");
        x.drum(0, 1, 0);
        return x;
    }

    @Sentence("2 hand: each HAND (0 to 999; 20) behind the one ahead")
    static void byHand(Due due) {
        LongColumn x = Due.of("keep 4 every 55");
        begin(due, "20", x, HAND, 0, 20, 40, 60);
        x.rule(6, 0);
        begin(due, "0", x, HAND, 0, 0, 0, 0);
        x.rule(6, 999);
        begin(due, "999", x, HAND, 0, 999, 1998, 2997);
    }

    @Sentence("where a BEND is between, by mouth (behind that one).")
    static void byHandRoundABend(Due due) {
        int[] bend = {54, 55, 109, 110};
        int[][] times = {{0, 150, 170, 190}, {0, 20, 170, 190}, {0, 20, 170, 190}, {0, 20, 40, 190}};
        for (int i = 0; i < bend.length; i++) {
            LongColumn x = Due.of("keep 4 every 55");
            x.bend(bend[i]);
            begin(due, "a BEND at " + bend[i], x, HAND, times[i]);
        }
        LongColumn y = Due.of("keep 4 every 55");
        y.bend(165);
        y.bend(4999);
        begin(due, "BENDS behind all", y, HAND, 0, 20, 40, 60);
        y.bend(0);
        y.bend(164);
        begin(due, "at both ends", y, HAND, 0, 150, 170, 320);
    }

    @Sentence({"where a BEND is between, by mouth (behind that one).", "BENDS (at most 6)"})
    static void byHandRoundSixBends(Due due) {
        LongColumn x = Due.of("keep 24 every 11");
        int[] bends = {0, 11, 22, 33, 44, 252};
        for (int at : bends) {
            x.bend(at);
        }
        // 17 times 20, 6 times 100 and 10
        due.is("the last", x.begin(HAND, 23), 1000);
        due.is("the one ahead of it", x.begin(HAND, 22), 890);
    }

    @Sentence("ORDERS to begin go by")
    static void theLastOf24(Due due) {
        LongColumn x = Due.of("keep 24 every 200");
        x.rule(1, 500);
        x.rule(2, -200);
        x.rule(5, 999);
        x.rule(6, 999);
        // 23 times 999 and 666
        due.is("mouth", x.begin(MOUTH, 23), 38295);
        due.is("hand", x.begin(HAND, 23), 22977);
        x.bend(4599);
        due.is("hand, the last by mouth", x.begin(HAND, 23), 23643);
    }

    @Sentence({"(0 mouth, 1 drum, 2 hand)", "BEYOND."})
    static void wayTooSmall(Due due) {
        due.refuses("-1", Due.BEYOND, Due::some, x -> x.begin(-1, 0));
        due.refuses("far", Due.BEYOND, Due::some, x -> x.begin(Due.MIN, 0));
    }

    @Sentence({"(0 mouth, 1 drum, 2 hand)", "BEYOND."})
    static void wayTooLarge(Due due) {
        due.refuses("3", Due.BEYOND, Due::some, x -> x.begin(3, 0));
        due.refuses("far", Due.BEYOND, Due::some, x -> x.begin(Due.MAX, 0));
    }

    @Sentence("BEYOND.")
    static void rankTooSmall(Due due) {
        due.refuses("-1", Due.BEYOND, Due::some, x -> x.begin(MOUTH, -1));
        due.refuses("far", Due.BEYOND, Due::some, x -> x.begin(HAND, Due.MIN));
    }

    @Sentence("BEYOND.")
    static void rankTooLarge(Due due) {
        due.refuses("3 of 3", Due.BEYOND, Due::some, x -> x.begin(HAND, 3));
        due.refuses("0 of none", Due.BEYOND, LongColumn::new, x -> x.begin(MOUTH, 0));
        due.refuses("far", Due.BEYOND, Due::some, x -> x.begin(MOUTH, Due.MAX));
    }

    @Sentence({"BEYOND. NONE.", "in the order in which they are asked (that of its words)"})
    static void beyondAheadOfNone(Due due) {
        due.refuses("rank", Due.BEYOND, Promise26BeginTest::faint, x -> x.begin(DRUM, 2));
        due.refuses("way", Due.BEYOND, Promise26BeginTest::faint, x -> x.begin(3, 1));
    }
}
