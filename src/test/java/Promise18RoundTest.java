/** Promise 18: round. */
public final class Promise18RoundTest {
    private static final int OUT = 5;

    public static void main(String[] args) {
        Promise.run(Promise18RoundTest.class);
    }

    /** A FREE one that goes round by PACE, and a TOLD one that is out at first, or not. */
    private static LongColumn wheel(int pace, int outAtFirst) {
        LongColumn x = Due.of("free 1 every 1 drift 1;told 1 every 1");
        x.rule(0, pace);
        x.change(1, OUT, outAtFirst);
        return x;
    }

    private static void goes(Due due, String what, LongColumn x, int from, int by) {
        due.is(what + ", from", x.round(0), from);
        due.is(what + ", by", x.round(1), by);
    }

    @Sentence({"IT GOES ROUND: what 0 from which n, 1 by which m (n and m together 200 at most).",
        "IT GOES ROUND from n on by m: what is OUT behind n PACES comes again behind m more"})
    static void fromAndBy(Due due) {
        LongColumn x = Due.of("free 1 every 1 drift 50;eye 1 every 1 part 100");
        // the EYE is ever one PACE late, but not at first
        goes(due, "a late EYE", x, 1, 10);
        x.change(1, OUT, -50);
        goes(due, "a late EYE from the start", x, 0, 10);
    }

    @Sentence("for the least n, then the least m.")
    static void theLeast(Due due) {
        goes(due, "not twice round", wheel(100, 0), 0, 100);
        goes(due, "from 1, though 2 is as good", wheel(100, 7), 1, 100);
    }

    @Sentence("for the least n, then the least m.")
    static void whatSettlesGoesRoundBy1(Due due) {
        goes(due, "at once", Due.of("keep 3 every 1"), 0, 1);
        LongColumn x = Due.of("keep 1 every 1;eye 1 every 1");
        x.change(0, OUT, 100);
        goes(due, "behind 7", x, 7, 1);
    }

    @Sentence("IT GOES ROUND")
    static void noRanks(Due due) {
        LongColumn x = new LongColumn();
        goes(due, "nothing is OUT", x, 0, 1);
        due.is("no finding", x.status(-1), 0);
    }

    @Sentence("(n and m together 200 at most)")
    static void just200(Due due) {
        goes(due, "0 and 200", wheel(200, 0), 0, 200);
        goes(due, "1 and 199", wheel(199, 7), 1, 199);
        goes(due, "199 and 1", Promise17SettlesTest.slow(463), 199, 1);
    }

    @Sentence({"(n and m together 200 at most)", "NONE: not so soon."})
    static void oneTooMany(Due due) {
        for (int i = 0; i <= 1; i++) {
            int what = i;
            due.refuses("0 and 201", Due.NONE, () -> wheel(201, 0), x -> x.round(what));
            due.refuses("1 and 200", Due.NONE, () -> wheel(200, 7), x -> x.round(what));
            due.refuses("200 and 1", Due.NONE, () -> Promise17SettlesTest.slow(467), x -> x.round(what));
        }
    }

    @Sentence("what is OUT behind n PACES comes again")
    static void ofEachOf24(Due due) {
        LongColumn x = Due.of("keep 1 every 1;eye 22 every 1 part 100;free 1 every 1 drift 50");
        x.change(0, OUT, 5);
        goes(due, "the 22 first, then the last one alone", x, 22, 10);
    }

    @Sentence({"what 0 from which n", "BEYOND."})
    static void whatTooSmall(Due due) {
        due.refuses("-1", Due.BEYOND, Due::some, x -> x.round(-1));
        due.refuses("far", Due.BEYOND, Due::some, x -> x.round(Due.MIN));
    }

    @Sentence({"1 by which m", "BEYOND."})
    static void whatTooLarge(Due due) {
        due.refuses("2", Due.BEYOND, Due::some, x -> x.round(2));
        due.refuses("far", Due.BEYOND, Due::some, x -> x.round(Due.MAX));
    }

    @Sentence({"BEYOND. NONE: not so soon.", "in the order in which they are asked (that of its words)"})
    static void beyondAheadOfNone(Due due) {
        due.refuses("2", Due.BEYOND, () -> wheel(201, 0), x -> x.round(2));
    }

    @Sentence("(nothing changes)")
    static void nothingChanges(Due due) {
        LongColumn x = Due.some();
        String before = Seen.of(x);
        x.round(0);
        x.round(1);
        due.holds("as it was", Seen.of(x).equals(before));
    }
}
