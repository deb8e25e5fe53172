/** Promise 21: both. */
public final class Promise21BothTest {
    private static final int OUT = 5;

    public static void main(String[] args) {
        Promise.run(Promise21BothTest.class);
    }

    private static LongColumn ears(int many) {
        LongColumn x = Due.of("ear " + many + " every 55 part 100");
        x.drum(4999, 99, 0);
        x.drum(3, 99, 0);
        return x;
    }

    private static LongColumn drumsAlone() {
        LongColumn x = new LongColumn();
        x.drum(7, 8, 9);
        x.drum(10, 11, 12);
        return x;
    }

    @Sentence("Two places likewise, for two DRUMS: 100 times the RANK for the one, and that for the other one "
            + "(also the same; of several the least number).")
    static void eachAmidItsHalf(Due due) {
        // with a DRUM at 1 and at 4 each one is 50 late at most; no other two do as well
        due.is("of six", ears(6).both(0, 1, 1), 104);
        due.is("of six, the other way", ears(6).both(1, 0, 1), 104);
    }

    @Sentence("Two places likewise, for two DRUMS")
    static void byWhatIsHeardSeenAndFelt(Due due) {
        LongColumn x = ears(6);
        x.rule(0, 100);
        // two RANKS are one PACE: from everywhere somebody is half a PACE off
        due.is("by PACE", x.both(0, 1, 1), 0);
        LongColumn y = Due.of("ear 1 every 1;ear 1 every 55 part 100;eye 1 every 200 part 100");
        y.drum(0, 99, 0);
        y.drum(0, 1, 0);
        y.change(2, OUT, 100);
        // the EYE, and the EAR ahead of it: 50, or 0; the first EAR: 0, or 43
        due.is("by EYE", y.both(0, 1, 3), 100);
        LongColumn z = Due.of("ear 1 every 1 part 100;feet 1 every 22 part 100");
        z.drum(0, 99, 30);
        z.drum(0, 1, 0);
        // the EAR: -30, or -10; FEET 20 more than that
        due.is("by FEET", z.both(0, 1, 2), 100);
    }

    @Sentence("100 times the RANK for the one, and that for the other one")
    static void theOneAndTheOther(Due due) {
        LongColumn x = Due.of("keep 23 every 1;ear 1 every 100 part 100");
        x.drum(0, 99, 0);
        x.drum(0, 1, 0);
        due.is("the loud one must be there", x.both(0, 1, 1), 2300);
        due.is("also as the other one", x.both(1, 0, 1), 23);
        LongColumn y = Due.of("keep 22 every 1;ear 2 every 200 part 100");
        y.drum(0, 99, 0);
        y.drum(0, 99, 0);
        due.is("each at an EAR", y.both(0, 1, 1), 2223);
    }

    @Sentence({"Two places likewise, for two DRUMS", "RANKS 0, 1, .. (at most 24)", "DRUMS 0, 1, .. (at most 6)"})
    static void theLastDrumsAmong24(Due due) {
        LongColumn x = Due.of("ear 24 every 11 part 100");
        for (int drum = 0; drum < 6; drum++) {
            x.drum(4999, drum < 4 ? 1 : 99, 0);
        }
        // LAG is 10 for each RANK between; RANK 12 hears both as loud, and so the one: not farther off than at 6
        due.is("each in its half", x.both(4, 5, 9), 617);
    }

    @Sentence("(also the same; of several the least number)")
    static void theSamePlace(Due due) {
        LongColumn x = Due.of("keep 2 every 55");
        x.drum(10, 99, 0);
        x.drum(20, 99, 0);
        due.is("all are as good", x.both(0, 1, 9), 0);
        x.rule(0, 2000);
        x.change(1, OUT, 1000);
        due.is("as bad as can be", x.both(0, 1, 9), 0);
        LongColumn y = Due.of("keep 1 every 1;ear 1 every 200 part 100");
        y.drum(10, 50, 0);
        y.drum(20, 55, 0);
        // the other one is louder from everywhere: it must be at the EAR, the one at 0
        due.is("the other one alone counts", y.both(0, 1, 1), 1);
        LongColumn z = Due.of("keep 1 every 1;ear 1 every 55 part 100");
        z.drum(10, 50, 0);
        z.drum(20, 51, -50);
        // a fiftieth less, the louder one is as loud as the one at the EAR, which counts then
        due.is("the louder one is late, and goes ahead", z.both(0, 1, 1), 100);
    }

    @Sentence("n 0 to 9.")
    static void nAtItsEnds(Due due) {
        due.is("0: nobody has heard them", ears(6).both(0, 1, 0), 0);
        LongColumn x = Due.of("free 1 every 1;ear 1 every 110 part 100");
        x.drum(0, 99, 0);
        x.drum(0, 1, 0);
        x.change(0, 4, 12);
        // the EAR: 100 with the DRUM at 0, 0 with it at 110; the FREE one: 12 n
        due.is("8: 96 is below 100", x.both(0, 1, 8), 100);
        due.is("9: 108 is not", x.both(0, 1, 9), 0);
    }

    @Sentence({"BEYOND: drums (also one and the same), n 0 to 9."})
    static void nTooSmall(Due due) {
        due.refuses("-1", Due.BEYOND, Due::some, x -> x.both(0, 1, -1));
        due.refuses("far", Due.BEYOND, Due::some, x -> x.both(0, 1, Due.MIN));
    }

    @Sentence({"BEYOND: drums (also one and the same), n 0 to 9."})
    static void nTooLarge(Due due) {
        due.refuses("10", Due.BEYOND, Due::some, x -> x.both(0, 1, 10));
        due.refuses("far", Due.BEYOND, Due::some, x -> x.both(0, 1, Due.MAX));
    }

    @Sentence("BEYOND: drums (also one and the same)")
    static void oneAndTheSame(Due due) {
        due.refuses("0", Due.BEYOND, Due::some, x -> x.both(0, 0, 1));
        due.refuses("1", Due.BEYOND, Due::some, x -> x.both(1, 1, 1));
    }

    @Sentence("BEYOND: drums")
    static void drumTooSmall(Due due) {
        due.refuses("one -1", Due.BEYOND, Due::some, x -> x.both(-1, 0, 1));
        due.refuses("other -1", Due.BEYOND, Due::some, x -> x.both(0, -1, 1));
        due.refuses("far", Due.BEYOND, Due::some, x -> x.both(Due.MIN, Due.MAX, 1));
    }

    @Sentence("BEYOND: drums")
    static void drumTooLarge(Due due) {
        due.refuses("one 2 of 2", Due.BEYOND, Due::some, x -> x.both(2, 0, 1));
        due.refuses("other 2 of 2", Due.BEYOND, Due::some, x -> x.both(0, 2, 1));
        due.refuses("none", Due.BEYOND, () -> Due.of("ear 1 every 1"), x -> x.both(0, 1, 1));
    }

    @Sentence("NONE.")
    static void noRanks(Due due) {
        due.refuses("0", Due.NONE, Promise21BothTest::drumsAlone, x -> x.both(0, 1, 0));
        due.refuses("9", Due.NONE, Promise21BothTest::drumsAlone, x -> x.both(1, 0, 9));
    }

    @Sentence({"n 0 to 9. NONE.", "in the order in which they are asked (that of its words)"})
    static void beyondAheadOfNone(Due due) {
        due.refuses("the same", Due.BEYOND, Promise21BothTest::drumsAlone, x -> x.both(0, 0, 0));
        due.refuses("n", Due.BEYOND, Promise21BothTest::drumsAlone, x -> x.both(0, 1, 10));
        due.refuses("no DRUMS", Due.BEYOND, LongColumn::new, x -> x.both(0, 1, 0));
    }

    @Sentence({"Two places likewise", "(nothing changes)"})
    static void nothingChanges(Due due) {
        LongColumn x = Due.some();
        String before = Seen.of(x);
        x.both(0, 1, 9);
        x.both(1, 0, 0);
        due.holds("as it was", Seen.of(x).equals(before));
    }
}
