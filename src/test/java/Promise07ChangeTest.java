/** Promise 7: change, and with it what WRAPPED is. */
public final class Promise07ChangeTest {
    private static final int OUT = 5;

    public static void main(String[] args) {
        Promise.run(Promise07ChangeTest.class);
    }

    private static void isWithin(Due due, int what, int least, int most) {
        LongColumn x = Due.of("ear 3 every 5");
        int first = what == 4 ? 0 : 50;
        due.is("at first", x.change(1, what, least), first);
        due.is("the least was", x.change(1, what, most), least);
        due.is("the most is", x.rankOf(1, what), most);
        due.is("RANK 0 stays", x.rankOf(0, what), first);
        due.is("RANK 2 stays", x.rankOf(2, what), first);
        due.refuses("just too small", Due.BEYOND, Due::some, y -> y.change(1, what, least - 1));
        due.refuses("far too small", Due.BEYOND, Due::some, y -> y.change(1, what, Due.MIN));
        due.refuses("just too large", Due.BEYOND, Due::some, y -> y.change(1, what, most + 1));
        due.refuses("far too large", Due.BEYOND, Due::some, y -> y.change(1, what, Due.MAX));
    }

    @Sentence({"PART (what 2)", "each with PART (0 to 100)"})
    static void part(Due due) {
        isWithin(due, 2, 0, 100);
    }

    @Sentence({"SHARE (3)", "SHARE (0 to 100)"})
    static void share(Due due) {
        isWithin(due, 3, 0, 100);
    }

    @Sentence({"DRIFT (4)", "DRIFT (-99 to 99)."})
    static void drift(Due due) {
        isWithin(due, 4, -99, 99);
    }

    @Sentence("PART (what 2), SHARE (3), DRIFT (4), OUT (5: any, WRAPPED) of a RANK becomes v: what it was.")
    static void eachIsItsOwn(Due due) {
        LongColumn x = Due.of("ear 1 every 1 part 1 share 2 drift 3");
        for (int what = 2; what <= 5; what++) {
            due.is("it was, " + what, x.change(0, what, 10 * what), what == 5 ? 0 : what - 1);
        }
        for (int what = 2; what <= 5; what++) {
            due.is("it is, " + what, x.rankOf(0, what), 10 * what);
        }
    }

    @Sentence("WRAPPED is a number by as many PACES as make it more than half a PACE below 0 and half a PACE at most "
            + "(its double: more than less PACE, PACE at most).")
    static void outAtHalfAPace(Due due) {
        int[] v = {249, 250, 251, -249, -250, -251, 499, 500, 501, -499, -500, -501, 750, 751, -750, -751};
        int[] out = {249, 250, -249, -249, 250, 249, -1, 0, 1, 1, 0, -1, 250, -249, 250, 249};
        LongColumn x = Due.of("keep 1 every 1");
        for (int i = 0; i < v.length; i++) {
            x.change(0, OUT, v[i]);
            due.is("OUT of " + v[i], x.rankOf(0, OUT), out[i]);
        }
    }

    @Sentence("(its double: more than less PACE, PACE at most).")
    static void outAtHalfAnOddPace(Due due) {
        int[] v = {50, 51, -50, -51, 101, -101, 151, 152, -151, -152};
        int[] out = {50, -50, -50, 50, 0, 0, 50, -50, -50, 50};
        LongColumn x = Due.of("keep 1 every 1");
        x.rule(0, 101);
        for (int i = 0; i < v.length; i++) {
            x.change(0, OUT, v[i]);
            due.is("OUT of " + v[i], x.rankOf(0, OUT), out[i]);
        }
    }

    @Sentence("OUT (5: any, WRAPPED)")
    static void outOfAnyInt(Due due) {
        LongColumn x = Due.of("keep 1 every 1");
        int[] pace = {100, 300, 500, 2000};
        // 2147483647 by these leaves 47, 247, 147, 1647
        int[] most = {47, -53, 147, -353};
        int[] least = {-48, 52, -148, 352};
        for (int i = 0; i < pace.length; i++) {
            x.rule(0, pace[i]);
            x.change(0, OUT, Due.MAX);
            due.is("the greatest, PACE " + pace[i], x.rankOf(0, OUT), most[i]);
            x.change(0, OUT, Due.MIN);
            due.is("the least, PACE " + pace[i], x.rankOf(0, OUT), least[i]);
        }
    }

    @Sentence("becomes v: what it was.")
    static void itWasWrapped(Due due) {
        LongColumn x = Due.of("keep 1 every 1");
        x.change(0, OUT, 251);
        due.is("not 251", x.change(0, OUT, -250), -249);
        due.is("not -250", x.change(0, OUT, 0), 250);
    }

    @Sentence({"BEYOND.", "PART (what 2)"})
    static void otherWhat(Due due) {
        int[] none = {-1, 0, 1, 6, 7, Due.MIN, Due.MAX};
        for (int what : none) {
            due.refuses("what " + what, Due.BEYOND, Due::some, x -> x.change(1, what, 1));
        }
    }

    @Sentence("BEYOND.")
    static void rankTooSmall(Due due) {
        due.refuses("-1", Due.BEYOND, Due::some, x -> x.change(-1, OUT, 1));
        due.refuses("far", Due.BEYOND, Due::some, x -> x.change(Due.MIN, OUT, 1));
    }

    @Sentence("BEYOND.")
    static void rankTooLarge(Due due) {
        due.refuses("3 of 3", Due.BEYOND, Due::some, x -> x.change(3, OUT, 1));
        due.refuses("24 of 24", Due.BEYOND, () -> Due.of("ear 24 every 1"), x -> x.change(24, 2, 1));
        due.refuses("far", Due.BEYOND, Due::some, x -> x.change(Due.MAX, OUT, 1));
        due.refuses("0 of none", Due.BEYOND, LongColumn::new, x -> x.change(0, OUT, 1));
    }

    @Sentence("OUT (5: any, WRAPPED)")
    static void theLastOf24(Due due) {
        LongColumn x = Due.of("ear 24 every 1");
        due.is("it was", x.change(23, OUT, 260), 0);
        due.is("it is", x.rankOf(23, OUT), -240);
        due.is("the one ahead stays", x.rankOf(22, OUT), 0);
    }
}
