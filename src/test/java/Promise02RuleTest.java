/** Promise 2: rule. */
public final class Promise02RuleTest {
    public static void main(String[] args) {
        Promise.run(Promise02RuleTest.class);
    }

    private static void isWithin(Due due, int what, int least, int most) {
        LongColumn x = new LongColumn();
        x.rule(what, least);
        due.is("the least was", x.rule(what, most), least);
        due.is("the most was", x.rule(what, most), most);
        due.refuses("just too small", Due.BEYOND, Due::some, y -> y.rule(what, least - 1));
        due.refuses("far too small", Due.BEYOND, Due::some, y -> y.rule(what, Due.MIN));
        due.refuses("just too large", Due.BEYOND, Due::some, y -> y.rule(what, most + 1));
        due.refuses("far too large", Due.BEYOND, Due::some, y -> y.rule(what, Due.MAX));
    }

    @Sentence("PACE (100 to 2000 ticks; 500 at first).")
    static void pace(Due due) {
        isWithin(due, 0, 100, 2000);
        due.is("at first", new LongColumn().rule(0, 100), 500);
    }

    @Sentence("SPEED (500 to 2000 feet in 1000 ticks; 1100 at first)")
    static void speed(Due due) {
        isWithin(due, 1, 500, 2000);
        due.is("at first", new LongColumn().rule(1, 500), 1100);
    }

    @Sentence("WIND (-200 to 200; 0 at first).")
    static void wind(Due due) {
        isWithin(due, 2, -200, 200);
        due.is("at first", new LongColumn().rule(2, 200), 0);
    }

    @Sentence("NEAR (0 to 500 feet; 30 at first)")
    static void near(Due due) {
        isWithin(due, 3, 0, 500);
        due.is("at first", new LongColumn().rule(3, 0), 30);
    }

    @Sentence("(ORDER -999 to 999; 0 at first).")
    static void order(Due due) {
        isWithin(due, 4, -999, 999);
        due.is("at first", new LongColumn().rule(4, 999), 0);
    }

    @Sentence("(0 to 999 ticks; 100 at first)")
    static void word(Due due) {
        isWithin(due, 5, 0, 999);
        due.is("at first", new LongColumn().rule(5, 0), 100);
    }

    @Sentence("HAND (0 to 999; 20)")
    static void hand(Due due) {
        isWithin(due, 6, 0, 999);
        due.is("at first", new LongColumn().rule(6, 0), 20);
    }

    @Sentence("PACE (what 0), SPEED (1), WIND (2), NEAR (3), ORDER (4), WORD (5), HAND (6) becomes v: what it was.")
    static void eachBecomesV(Due due) {
        LongColumn x = Due.of("keep 1 every 1;told 1 every 22;feet 1 every 11");
        x.rule(0, 300);
        x.change(0, 5, 200);
        due.is("PACE", x.rankOf(0, 5), -100);
        x.rule(1, 1000);
        due.is("SPEED", x.lag(0, 100), 100);
        x.rule(2, -200);
        due.is("WIND", x.lag(0, 100), 125);
        x.rule(4, 40);
        due.is("ORDER", x.rankOf(1, 7), 40);
        x.rule(5, 7);
        // LAG of 22 feet with SPEED 1000 against WIND 200
        due.is("WORD", x.begin(0, 1), 34);
        x.rule(6, 8);
        due.is("HAND", x.begin(2, 2), 16);
        // RANK 1 is felt alone (LAG 13, by half 6), then nobody
        x.rule(3, 11);
        due.is("NEAR", x.rankOf(2, 7), 6);
        x.rule(3, 10);
        due.is("less NEAR", x.rankOf(2, 7), 0);
    }

    @Sentence("becomes v: what it was.")
    static void theOthersStay(Due due) {
        int[] first = {500, 1100, 0, 30, 0, 100, 20};
        for (int what = 0; what < first.length; what++) {
            LongColumn x = new LongColumn();
            x.rule(what, first[what] + 1);
            for (int other = 0; other < first.length; other++) {
                int was = other == what ? first[what] + 1 : first[other];
                due.is("rule " + other + " behind " + what, x.rule(other, first[other]), was);
            }
        }
    }

    @Sentence({"BEYOND.", "PACE (what 0)"})
    static void whatTooSmall(Due due) {
        due.refuses("-1", Due.BEYOND, Due::some, x -> x.rule(-1, 500));
        due.refuses("far", Due.BEYOND, Due::some, x -> x.rule(Due.MIN, 500));
    }

    @Sentence({"BEYOND.", "HAND (6)"})
    static void whatTooLarge(Due due) {
        due.refuses("7", Due.BEYOND, Due::some, x -> x.rule(7, 500));
        due.refuses("far", Due.BEYOND, Due::some, x -> x.rule(Due.MAX, 500));
    }

    @Sentence("Each RANK is OUT by a WRAPPED number of ticks (0 at first; WRAPPED anew as PACE is told).")
    static void outIsWrappedAnew(Due due) {
        LongColumn x = Due.of("keep 4 every 1");
        due.outs("at first", x, 0, 0, 0, 0);
        x.change(0, 5, 240);
        x.change(1, 5, 150);
        x.change(2, 5, -150);
        x.change(3, 5, -151);
        x.rule(0, 300);
        // just half a PACE stays, just half below 0 comes above it
        due.outs("PACE 300", x, -60, 150, 150, 149);
        x.rule(0, 2000);
        due.outs("a greater PACE takes nothing back", x, -60, 150, 150, 149);
        x.rule(0, 100);
        due.outs("the least PACE", x, 40, 50, 50, 49);
    }

    @Sentence("WRAPPED anew as PACE is told")
    static void outIsWrappedAnewByAnOddPace(Due due) {
        LongColumn x = Due.of("keep 4 every 1");
        x.change(0, 5, 50);
        x.change(1, 5, 51);
        x.change(2, 5, -50);
        x.change(3, 5, -51);
        x.rule(0, 101);
        due.outs("PACE 101", x, 50, -50, -50, 50);
    }

    @Sentence("WRAPPED anew as PACE is told")
    static void outIsWrappedAnewOfAllOf24(Due due) {
        LongColumn x = Due.of("keep 24 every 1");
        for (int rank = 0; rank < 24; rank++) {
            x.change(rank, 5, 60 + rank);
        }
        x.rule(0, 100);
        for (int rank = 0; rank < 24; rank++) {
            due.is("OUT of " + rank, x.rankOf(rank, 5), rank - 40);
        }
    }
}
