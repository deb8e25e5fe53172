/** Promise 19: better. */
public final class Promise19BetterTest {
    private static final int OUT = 5;

    public static void main(String[] args) {
        Promise.run(Promise19BetterTest.class);
    }

    @Sentence("How many PACES a MARCH of n (1 to 200) has behind which WORST is less than ahead of that PACE.")
    static void howMany(Due due) {
        LongColumn x = Due.of("free 1 every 1 drift 50");
        // 50 .. 250 -200 .. -50 0 50
        due.is("5", x.better(5), 0);
        due.is("6", x.better(6), 1);
        due.is("10", x.better(10), 5);
        due.is("11", x.better(11), 5);
    }

    @Sentence("WORST is less than ahead of that PACE")
    static void likeIsNotLess(Due due) {
        LongColumn x = Due.of("keep 1 every 1;told 1 every 1");
        x.change(0, OUT, 30);
        x.change(1, OUT, -30);
        due.is("the TOLD one comes right, the other one not", x.better(1), 0);
        x.change(1, OUT, -31);
        due.is("31, then 30 for ever", x.better(200), 1);
        // 99 at PACE 100 is 1 back
        LongColumn y = Due.of("free 1 every 1 drift 99");
        y.rule(0, 100);
        y.change(0, OUT, 1);
        due.is("1, then 0", y.better(1), 1);
        due.is("1, then 0, then -1", y.better(2), 1);
    }

    @Sentence("a MARCH of n (1 to 200)")
    static void nAtItsEnds(Due due) {
        LongColumn x = Due.of("free 1 every 1 drift 1");
        x.change(0, OUT, -200);
        due.is("1", x.better(1), 1);
        due.is("199", x.better(199), 199);
        due.is("200", x.better(200), 200);
    }

    @Sentence({"a MARCH of n (1 to 200)", "BEYOND."})
    static void nTooSmall(Due due) {
        due.refuses("0", Due.BEYOND, Due::some, x -> x.better(0));
        due.refuses("-1", Due.BEYOND, Due::some, x -> x.better(-1));
        due.refuses("far", Due.BEYOND, Due::some, x -> x.better(Due.MIN));
    }

    @Sentence({"a MARCH of n (1 to 200)", "BEYOND."})
    static void nTooLarge(Due due) {
        due.refuses("201", Due.BEYOND, Due::some, x -> x.better(201));
        due.refuses("far", Due.BEYOND, Due::some, x -> x.better(Due.MAX));
        due.refuses("201 without RANKS", Due.BEYOND, LongColumn::new, x -> x.better(201));
    }

    @Sentence("How many PACES")
    static void noRanks(Due due) {
        LongColumn x = new LongColumn();
        due.is("none", x.better(200), 0);
        due.is("no finding", x.status(-1), 0);
    }

    @Sentence("(nothing changes)")
    static void nothingChanges(Due due) {
        LongColumn x = Due.some();
        String before = Seen.of(x);
        x.better(200);
        due.holds("as it was", Seen.of(x).equals(before));
    }
}
