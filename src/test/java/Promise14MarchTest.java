/** Promise 14: march. */
public final class Promise14MarchTest {
    private static final int OUT = 5;

    public static void main(String[] args) {
        Promise.run(Promise14MarchTest.class);
    }

    private static LongColumn follower() {
        LongColumn x = Due.of("keep 1 every 1;eye 1 every 1");
        x.change(0, OUT, 100);
        return x;
    }

    @Sentence("OUT of a RANK behind a MARCH of n PACES (0 to 200).")
    static void eachPace(Due due) {
        LongColumn x = follower();
        int[] out = {0, 50, 75, 87, 93, 96, 98, 99, 99};
        for (int n = 0; n < out.length; n++) {
            due.is("behind " + n, x.march(1, n), out[n]);
            due.is("RANK 0 behind " + n, x.march(0, n), 100);
        }
    }

    @Sentence("n PACES (0 to 200)")
    static void noneAt0(Due due) {
        LongColumn x = Due.of("free 1 every 1 drift 5");
        x.change(0, OUT, -33);
        due.is("0", x.march(0, 0), -33);
    }

    @Sentence("n PACES (0 to 200)")
    static void allOf200(Due due) {
        due.is("200", Due.of("free 1 every 1 drift 1").march(0, 200), 200);
    }

    @Sentence({"n PACES (0 to 200)", "BEYOND."})
    static void nTooSmall(Due due) {
        due.refuses("-1", Due.BEYOND, Due::some, x -> x.march(0, -1));
        due.refuses("far", Due.BEYOND, Due::some, x -> x.march(0, Due.MIN));
    }

    @Sentence({"n PACES (0 to 200)", "BEYOND."})
    static void nTooLarge(Due due) {
        due.refuses("201", Due.BEYOND, Due::some, x -> x.march(0, 201));
        due.refuses("far", Due.BEYOND, Due::some, x -> x.march(0, Due.MAX));
    }

    @Sentence("BEYOND.")
    static void rankTooSmall(Due due) {
        due.refuses("-1", Due.BEYOND, Due::some, x -> x.march(-1, 1));
        due.refuses("far", Due.BEYOND, Due::some, x -> x.march(Due.MIN, 1));
    }

    @Sentence("BEYOND.")
    static void rankTooLarge(Due due) {
        due.refuses("3 of 3", Due.BEYOND, Due::some, x -> x.march(3, 1));
        due.refuses("far", Due.BEYOND, Due::some, x -> x.march(Due.MAX, 1));
        due.refuses("0 of none", Due.BEYOND, LongColumn::new, x -> x.march(0, 0));
        due.refuses("24 of 24", Due.BEYOND, () -> Due.of("ear 24 every 1"), x -> x.march(24, 1));
    }

    @Sentence("A MARCH of n PACES: as if so many were trodden (nothing changes).")
    static void nothingChanges(Due due) {
        LongColumn x = Due.some();
        String before = Seen.of(x);
        x.march(0, 200);
        x.march(2, 7);
        due.holds("as it was", Seen.of(x).equals(before));
    }

    @Sentence("as if so many were trodden")
    static void asIfTrodden(Due due) {
        LongColumn x = Due.some();
        LongColumn y = Due.some();
        y.tread(7);
        for (int rank = 0; rank < 3; rank++) {
            due.is("RANK " + rank, x.march(rank, 7), y.rankOf(rank, OUT));
        }
    }

    @Sentence("as if so many were trodden")
    static void outGoesRound(Due due) {
        LongColumn x = Due.of("free 1 every 1 drift 50");
        due.is("250", x.march(0, 5), 250);
        due.is("300 is -200", x.march(0, 6), -200);
        due.is("500 is 0", x.march(0, 10), 0);
        due.is("10000 is 0", x.march(0, 200), 0);
    }

    @Sentence("OUT of a RANK behind a MARCH")
    static void theLastOf24(Due due) {
        LongColumn x = Due.of("keep 1 every 1;eye 23 every 1 part 100");
        x.change(0, OUT, 5);
        due.is("behind 22 it has not come there", x.march(23, 22), 0);
        due.is("behind 23 it has", x.march(23, 23), 5);
    }
}
