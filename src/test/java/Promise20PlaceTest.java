/** Promise 20: place. */
public final class Promise20PlaceTest {
    private static final int OUT = 5;

    public static void main(String[] args) {
        Promise.run(Promise20PlaceTest.class);
    }

    private static LongColumn ears(int many) {
        LongColumn x = Due.of("ear " + many + " every 55 part 100");
        x.drum(4999, 99, 0);
        return x;
    }

    @Sentence("Where a DRUM had best stand: of the RANKS' places that at which WORST behind a MARCH of n PACES (0 to 50) "
            + "is least: the RANK (the least of several).")
    static void inTheMiddle(Due due) {
        // LAG is 50 for each RANK between: 200 at an end, 100 in the middle
        due.is("of five", ears(5).place(0, 1), 2);
    }

    @Sentence("WORST behind a MARCH of n PACES (0 to 50) is least")
    static void byWhatIsHeardSeenAndFelt(Due due) {
        LongColumn x = ears(5);
        x.rule(0, 100);
        // two RANKS are one PACE: from everywhere somebody is half a PACE off
        due.is("by PACE", x.place(0, 1), 0);
        LongColumn y = Due.of("ear 1 every 1;ear 1 every 55 part 100;eye 1 every 200 part 100");
        y.drum(0, 99, 0);
        y.change(2, OUT, 100);
        // the EYE, and the EAR ahead of it: 50, or 0; the first EAR: 0, or 43
        due.is("by EYE", y.place(0, 3), 1);
        LongColumn z = Due.of("ear 1 every 1 part 100;feet 1 every 22 part 100");
        z.drum(0, 99, 30);
        // the EAR: -30, or -10; FEET 20 more than that
        due.is("by FEET", z.place(0, 2), 1);
    }

    @Sentence("(the least of several)")
    static void theLeastOfSeveral(Due due) {
        due.is("of four, two are as good", ears(4).place(0, 1), 1);
        LongColumn x = Due.of("keep 3 every 1");
        x.drum(0, 9, 0);
        due.is("of three, all are", x.place(0, 50), 0);
        x.rule(0, 2000);
        x.change(2, OUT, 1000);
        due.is("as bad as can be", x.place(0, 50), 0);
    }

    @Sentence("of the RANKS' places")
    static void theLastOf24(Due due) {
        LongColumn x = Due.of("keep 23 every 1;ear 1 every 100 part 100");
        x.drum(0, 99, 0);
        due.is("at the only EAR", x.place(0, 1), 23);
    }

    @Sentence({"Where a DRUM had best stand", "DRUMS 0, 1, .. (at most 6)"})
    static void theLastDrumOfSix(Due due) {
        LongColumn x = Due.of("ear 24 every 11 part 100");
        for (int drum = 0; drum < 6; drum++) {
            x.drum(4999, drum == 5 ? 99 : 1, 0);
        }
        // LAG is 10 for each RANK between: 120 from 11 or 12, of which 11 is the least
        due.is("the loud one", x.place(5, 50), 11);
        due.is("a faint one, which changes nothing", x.place(4, 50), 0);
    }

    @Sentence("of the RANKS' places")
    static void oneRank(Due due) {
        due.is("there is no other", ears(1).place(0, 50), 0);
    }

    @Sentence("a MARCH of n PACES (0 to 50)")
    static void nAtItsEnds(Due due) {
        due.is("0: nobody has heard it", ears(5).place(0, 0), 0);
        LongColumn x = Due.of("free 1 every 1;ear 1 every 110 part 100");
        x.drum(0, 99, 0);
        x.change(0, 4, 2);
        // the EAR: 100 with the DRUM at 0, 0 with it at 110; the FREE one: 2 n
        due.is("49: 98 is below 100", x.place(0, 49), 1);
        due.is("50: 100 is not", x.place(0, 50), 0);
    }

    @Sentence({"n PACES (0 to 50)", "BEYOND."})
    static void nTooSmall(Due due) {
        due.refuses("-1", Due.BEYOND, Due::some, x -> x.place(0, -1));
        due.refuses("far", Due.BEYOND, Due::some, x -> x.place(0, Due.MIN));
    }

    @Sentence({"n PACES (0 to 50)", "BEYOND."})
    static void nTooLarge(Due due) {
        due.refuses("51", Due.BEYOND, Due::some, x -> x.place(0, 51));
        due.refuses("far", Due.BEYOND, Due::some, x -> x.place(0, Due.MAX));
    }

    @Sentence("BEYOND.")
    static void drumTooSmall(Due due) {
        due.refuses("-1", Due.BEYOND, Due::some, x -> x.place(-1, 0));
        due.refuses("far", Due.BEYOND, Due::some, x -> x.place(Due.MIN, 0));
    }

    @Sentence("BEYOND.")
    static void drumTooLarge(Due due) {
        due.refuses("2 of 2", Due.BEYOND, Due::some, x -> x.place(2, 0));
        due.refuses("far", Due.BEYOND, Due::some, x -> x.place(Due.MAX, 0));
        due.refuses("0 of none", Due.BEYOND, () -> Due.of("ear 1 every 1"), x -> x.place(0, 0));
    }

    private static LongColumn drumAlone() {
        LongColumn x = new LongColumn();
        x.drum(7, 8, 9);
        return x;
    }

    @Sentence("NONE: there are no RANKS.")
    static void noRanks(Due due) {
        due.refuses("0", Due.NONE, Promise20PlaceTest::drumAlone, x -> x.place(0, 0));
        due.refuses("50", Due.NONE, Promise20PlaceTest::drumAlone, x -> x.place(0, 50));
    }

    @Sentence({"BEYOND. NONE: there are no RANKS.", "in the order in which they are asked (that of its words)"})
    static void beyondAheadOfNone(Due due) {
        due.refuses("n", Due.BEYOND, Promise20PlaceTest::drumAlone, x -> x.place(0, 51));
        due.refuses("drum", Due.BEYOND, Promise20PlaceTest::drumAlone, x -> x.place(1, 0));
        due.refuses("no DRUM, no RANKS", Due.BEYOND, LongColumn::new, x -> x.place(0, 0));
    }

    @Sentence({"Where a DRUM had best stand", "(nothing changes)"})
    static void nothingChanges(Due due) {
        LongColumn x = Due.some();
        String before = Seen.of(x);
        x.place(1, 50);
        x.place(0, 0);
        due.holds("as it was", Seen.of(x).equals(before));
    }

    @Sentence("WORST behind a MARCH of n PACES (0 to 50) is least")
    static void theOtherDrumsStay(Due due) {
        LongColumn x = ears(5);
        x.drum(0, 99, 0);
        // with it at RANK 3, RANKS 0 and 1 hear DRUM 1 better, and each one is 50 late at most
        due.is("for those whom no other one is near", x.place(0, 1), 3);
    }
}
