/** Promise 6: rankOf, and with it the DRUM and the TURN of a RANK. */
public final class Promise06RankOfTest {
    private static final int OUT = 5;
    private static final int DRUM = 6;
    private static final int TURN = 7;

    public static void main(String[] args) {
        Promise.run(Promise06RankOfTest.class);
    }

    @Sentence("Of a RANK: what 0 kind, 1 its place, 2 PART, 3 SHARE, 4 DRIFT, 5 OUT, 6 its DRUM (-1: none), 7 TURN.")
    static void eachWhat(Due due) {
        LongColumn x = Due.of("told 1 every 1;free 1 every 50 part 10 share 20 drift 30");
        x.change(1, OUT, -7);
        x.drum(4999, 1, 0);
        x.drum(50, 9, 0);
        int[] of = {6, 50, 10, 20, 30, -7, 1, 30};
        for (int what = 0; what < of.length; what++) {
            due.is("what " + what, x.rankOf(1, what), of[what]);
        }
    }

    @Sentence("BEYOND.")
    static void rankTooSmall(Due due) {
        due.refuses("-1", Due.BEYOND, Due::some, x -> x.rankOf(-1, 0));
        due.refuses("far", Due.BEYOND, Due::some, x -> x.rankOf(Due.MIN, 0));
    }

    @Sentence("BEYOND.")
    static void rankTooLarge(Due due) {
        due.refuses("3 of 3", Due.BEYOND, Due::some, x -> x.rankOf(3, 0));
        due.refuses("24 of 24", Due.BEYOND, () -> Due.of("ear 24 every 1"), x -> x.rankOf(24, 0));
        due.refuses("far", Due.BEYOND, Due::some, x -> x.rankOf(Due.MAX, 0));
    }

    @Sentence("BEYOND.")
    static void noRanks(Due due) {
        due.refuses("RANK 0", Due.BEYOND, LongColumn::new, x -> x.rankOf(0, 0));
    }

    @Sentence({"what 0 kind", "BEYOND."})
    static void whatTooSmall(Due due) {
        due.refuses("-1", Due.BEYOND, Due::some, x -> x.rankOf(0, -1));
        due.refuses("far", Due.BEYOND, Due::some, x -> x.rankOf(0, Due.MIN));
    }

    @Sentence({"7 TURN", "BEYOND."})
    static void whatTooLarge(Due due) {
        due.refuses("8", Due.BEYOND, Due::some, x -> x.rankOf(0, 8));
        due.refuses("far", Due.BEYOND, Due::some, x -> x.rankOf(0, Due.MAX));
    }

    @Sentence("6 its DRUM (-1: none)")
    static void noDrum(Due due) {
        due.is("there are none", Due.of("ear 1 every 1").rankOf(0, DRUM), -1);
    }

    @Sentence("none, if that is below 1.")
    static void drumTooFaint(Due due) {
        LongColumn x = Due.of("ear 1 every 1");
        x.drum(49, 1, 0);
        due.is("1 less 0", x.rankOf(0, DRUM), 0);
        x.carry(0, 50);
        due.is("1 less 1", x.rankOf(0, DRUM), -1);
        x.carry(0, 4999);
        due.is("1 less 99", x.rankOf(0, DRUM), -1);
        x.drum(4949, 99, 0);
        due.is("99 less 98", x.rankOf(0, DRUM), 1);
        x.carry(1, 4950);
        due.is("99 less 99", x.rankOf(0, DRUM), -1);
    }

    @Sentence("THE DRUM of a RANK: that for which LOUD less a fiftieth of its distance (cut) is greatest")
    static void theGreatest(Due due) {
        LongColumn x = Due.of("ear 3 every 200");
        x.drum(0, 5, 0);
        x.drum(400, 9, 0);
        due.is("5 above 9 less 8", x.rankOf(0, DRUM), 0);
        due.is("9 less 4 above 5 less 4", x.rankOf(1, DRUM), 1);
        due.is("9 alone", x.rankOf(2, DRUM), 1);
        x.drum(350, 8, 0);
        due.is("8 less 3 is no more than 9 less 4", x.rankOf(1, DRUM), 1);
        x.carry(2, 349);
        due.is("8 less 149 by 50 is more", x.rankOf(1, DRUM), 2);
    }

    @Sentence("of like ones the least")
    static void likeOnes(Due due) {
        LongColumn x = Due.of("ear 2 every 100");
        x.drum(1, 1, 0);
        x.drum(149, 5, 0);
        x.drum(100, 5, 0);
        x.drum(51, 5, 0);
        due.is("49 feet off is as at hand", x.rankOf(1, DRUM), 1);
        x.carry(1, 150);
        due.is("50 feet off is not", x.rankOf(1, DRUM), 2);
    }

    @Sentence("DRUMS 0, 1, .. (at most 6)")
    static void theLastOfSix(Due due) {
        LongColumn x = Due.of("ear 1 every 1");
        for (int drum = 0; drum < 6; drum++) {
            x.drum(0, 1 + drum, 0);
        }
        due.is("the loudest", x.rankOf(0, DRUM), 5);
    }

    @Sentence("TURN of a RANK: KEEPER: 0.")
    static void turnOfKeeper(Due due) {
        LongColumn x = Due.of("keep 2 every 1 part 100 share 100 drift 99");
        x.drum(0, 99, 50);
        x.rule(4, 77);
        x.change(0, OUT, 100);
        x.change(1, OUT, 250);
        due.is("RANK 0", x.rankOf(0, TURN), 0);
        due.is("RANK 1", x.rankOf(1, TURN), 0);
    }

    @Sentence("EAR: with a DRUM: WRAPPED (LAG from it, less AHEAD, less OUT) times PART by 100")
    static void turnOfEar(Due due) {
        LongColumn x = Due.of("ear 2 every 55");
        x.drum(0, 20, 0);
        due.is("50 by half", x.rankOf(1, TURN), 25);
        x.change(1, OUT, -1);
        due.is("51 by half is cut", x.rankOf(1, TURN), 25);
        x.change(1, OUT, 61);
        due.is("-11 by half is cut upwards", x.rankOf(1, TURN), -5);
        x.drum(55, 21, 30);
        due.is("another DRUM, LAG 0 less 30 less 61", x.rankOf(1, TURN), -45);
    }

    @Sentence("else as KEEPER.")
    static void turnOfEarWithoutDrum(Due due) {
        LongColumn x = Due.of("ear 1 every 1 part 100");
        x.change(0, OUT, 77);
        due.is("no DRUM", x.rankOf(0, TURN), 0);
        x.drum(50, 1, 33);
        due.is("none that is heard", x.rankOf(0, TURN), 0);
    }

    @Sentence("WRAPPED (LAG from it, less AHEAD, less OUT)")
    static void turnOfEarGoesRound(Due due) {
        int[] ahead = {-250, -251, 250, 249, -999, 999, 500};
        int[] turn = {250, -249, 250, -249, -1, 1, 0};
        for (int i = 0; i < ahead.length; i++) {
            LongColumn x = Due.of("ear 1 every 1 part 100");
            x.drum(0, 99, ahead[i]);
            due.is("AHEAD " + ahead[i], x.rankOf(0, TURN), turn[i]);
        }
        LongColumn y = Due.of("ear 1 every 1 part 100");
        y.rule(0, 100);
        y.rule(1, 500);
        y.rule(2, 200);
        y.drum(4949, 99, 0);
        // 4949000 by 300 is 16496
        due.is("the longest LAG, the least PACE", y.rankOf(0, TURN), -4);
    }

    @Sentence("times PART by 100")
    static void turnByPart(Due due) {
        LongColumn x = Due.of("ear 1 every 1 part 0");
        x.drum(0, 99, 101);
        due.is("PART 0", x.rankOf(0, TURN), 0);
        x.change(0, 2, 1);
        due.is("PART 1", x.rankOf(0, TURN), -1);
        x.change(0, 2, 99);
        due.is("PART 99", x.rankOf(0, TURN), -99);
        x.change(0, 2, 100);
        due.is("PART 100", x.rankOf(0, TURN), -101);
    }

    @Sentence("EYE: RANK 0, and one between whom and the RANK ahead a BEND is")
    static void turnOfEyeAtTheHead(Due due) {
        LongColumn x = Due.of("eye 1 every 1 part 100");
        x.change(0, OUT, 77);
        due.is("RANK 0", x.rankOf(0, TURN), 0);
    }

    @Sentence("(not below that one's place, below its own): as KEEPER")
    static void turnOfEyeByABend(Due due) {
        int[] bend = {9, 10, 19, 20};
        int[] turn = {60, 0, 0, 60};
        for (int i = 0; i < bend.length; i++) {
            LongColumn x = Due.of("keep 2 every 10;eye 1 every 10 part 100");
            x.change(1, OUT, 60);
            due.is("no BEND", x.rankOf(2, TURN), 60);
            x.bend(4999);
            x.bend(bend[i]);
            due.is("a BEND at " + bend[i], x.rankOf(2, TURN), turn[i]);
        }
    }

    @Sentence("(not below that one's place, below its own)")
    static void turnOfEyeByTheLastBendOfSix(Due due) {
        LongColumn x = Due.of("keep 1 every 1;eye 1 every 1 part 100");
        x.change(0, OUT, 60);
        for (int bend = 6; bend > 1; bend--) {
            x.bend(bend);
        }
        due.is("five are behind", x.rankOf(1, TURN), 60);
        x.bend(0);
        due.is("the sixth is between", x.rankOf(1, TURN), 0);
    }

    @Sentence("else WRAPPED (OUT of the RANK ahead less OUT) times PART by 100.")
    static void turnOfEyeGoesRound(Due due) {
        int[] ahead = {250, 251, -249, 200, 240};
        int[] own = {0, 0, 1, -150, -10};
        int[] turn = {250, -249, 250, -150, 250};
        for (int i = 0; i < ahead.length; i++) {
            LongColumn x = Due.of("keep 1 every 1;eye 1 every 1 part 100");
            x.change(0, OUT, ahead[i]);
            x.change(1, OUT, own[i]);
            due.is(own[i] + " behind " + ahead[i], x.rankOf(1, TURN), turn[i]);
        }
        LongColumn y = Due.of("keep 1 every 1;eye 1 every 1");
        y.change(0, OUT, -7);
        due.is("-7 by half is cut upwards", y.rankOf(1, TURN), -3);
        y.drum(0, 99, 55);
        due.is("it does not hear", y.rankOf(1, TURN), -3);
    }

    @Sentence({"MIXED: as EYE times SHARE, and as an EAR does times 100 less SHARE", "(both by PART first, cut), together by 100."})
    static void turnOfMixed(Due due) {
        LongColumn x = Due.of("keep 1 every 1;mix 1 every 57");
        x.change(0, OUT, 101);
        x.drum(0, 20, 0);
        // as EYE 101 by half, as EAR LAG 51 by half
        due.is("50 and 25, by half each", x.rankOf(1, TURN), 37);
        x.change(1, 3, 25);
        due.is("50 by a quarter", x.rankOf(1, TURN), 31);
        LongColumn y = Due.of("keep 1 every 1;mix 1 every 1");
        y.change(0, OUT, 2);
        y.drum(1, 20, -2);
        due.is("two halves of 1 together", y.rankOf(1, TURN), 1);
        y.change(0, OUT, -3);
        // -1 by half, and 1 by half
        due.is("two that undo each other", y.rankOf(1, TURN), 0);
    }

    @Sentence("as EYE times SHARE, and as an EAR does times 100 less SHARE")
    static void turnOfMixedByShareAtItsEnds(Due due) {
        LongColumn x = Due.of("keep 1 every 1;mix 1 every 57");
        x.change(0, OUT, 101);
        x.drum(0, 20, 0);
        x.change(1, 3, 0);
        due.is("SHARE 0", x.rankOf(1, TURN), 25);
        x.change(1, 3, 100);
        due.is("SHARE 100", x.rankOf(1, TURN), 50);
        LongColumn y = Due.of("keep 1 every 1;mix 1 every 1 part 100");
        y.change(0, OUT, 240);
        y.drum(1, 20, -230);
        y.change(1, 3, 0);
        due.is("SHARE 0, all of 230", y.rankOf(1, TURN), 230);
        y.change(1, 3, 100);
        due.is("SHARE 100, all of 240", y.rankOf(1, TURN), 240);
    }

    @Sentence({"MIXED: as EYE times SHARE", "RANK 0", "else as KEEPER."})
    static void turnOfMixedWithoutOneOfThem(Due due) {
        LongColumn x = Due.of("mix 1 every 1;mix 1 every 57");
        x.change(0, OUT, 101);
        due.is("nobody drums", x.rankOf(1, TURN), 25);
        x.drum(0, 20, 0);
        // LAG 0 less 101, by half, by half
        due.is("nobody is ahead", x.rankOf(0, TURN), -25);
        x.bend(56);
        // 25 by half and 0
        due.is("a BEND is between", x.rankOf(1, TURN), 12);
    }

    @Sentence("FEET: by all other RANKS that are NEAR (0 to 500 feet; 30 at first) at most")
    static void turnOfFeetByNear(Due due) {
        LongColumn x = Due.of("keep 1 every 1;feet 1 every 11 part 100;keep 1 every 30;keep 1 every 1");
        x.change(0, OUT, 2);
        // LAG 10 and 2 from 11 feet ahead; LAG 27 from 30 feet behind; 31 feet are too far
        due.is("NEAR 30", x.rankOf(1, TURN), 19);
        x.rule(3, 31);
        // and LAG 28
        due.is("NEAR 31", x.rankOf(1, TURN), 22);
        x.rule(3, 29);
        due.is("NEAR 29", x.rankOf(1, TURN), 12);
        x.rule(3, 11);
        due.is("NEAR 11", x.rankOf(1, TURN), 12);
    }

    @Sentence("NEAR (0 to 500 feet; 30 at first) at most")
    static void turnOfFeetByNearAtItsEnds(Due due) {
        LongColumn x = Due.of("feet 1 every 1;keep 2 every 200;keep 1 every 100;keep 1 every 1");
        x.rule(0, 2000);
        x.rule(3, 500);
        // LAG from 200, 400, 500 feet: 181, 363, 454; their mean 332, by half
        due.is("NEAR 500", x.rankOf(0, TURN), 166);
        x.rule(3, 0);
        due.is("NEAR 0: nobody is", x.rankOf(0, TURN), 0);
        LongColumn y = Due.of("feet 2 every 1 part 100");
        y.rule(1, 500);
        y.rule(3, 0);
        due.is("NEAR 0: not even by a foot", y.rankOf(1, TURN), 0);
        y.rule(3, 1);
        due.is("NEAR 1", y.rankOf(1, TURN), 2);
    }

    @Sentence("the mean (their sum by how many, cut) of WRAPPED (OUT of each and LAG from it, less OUT), times PART by 100")
    static void turnOfFeetByTheMean(Due due) {
        LongColumn x = Due.of("keep 1 every 1;feet 1 every 11 part 100;keep 1 every 11");
        due.is("10 and 10", x.rankOf(1, TURN), 10);
        x.change(0, OUT, 5);
        due.is("15 and 10, cut", x.rankOf(1, TURN), 12);
        x.change(1, 2, 50);
        due.is("12 by half", x.rankOf(1, TURN), 6);
        x.change(1, 2, 100);
        x.change(2, OUT, -30);
        due.is("15 and -20, cut upwards", x.rankOf(1, TURN), -2);
        x.change(1, OUT, 20);
        due.is("-5 and -40", x.rankOf(1, TURN), -22);
        x.rule(2, 200);
        // LAG 8 with WIND from ahead, 12 against it from behind: -7 and -38
        due.is("LAG by WIND", x.rankOf(1, TURN), -22);
        x.change(2, OUT, 30);
        // -7 and 22
        due.is("LAG by WIND, each its own", x.rankOf(1, TURN), 7);
    }

    @Sentence("WRAPPED (OUT of each and LAG from it, less OUT)")
    static void turnOfFeetGoesRound(Due due) {
        LongColumn x = Due.of("keep 1 every 1;feet 1 every 11 part 100;keep 1 every 11");
        x.change(0, OUT, 240);
        due.is("250 and 10", x.rankOf(1, TURN), 130);
        x.change(0, OUT, 241);
        due.is("-249 and 10", x.rankOf(1, TURN), -119);
        x.change(1, OUT, -250);
        // 250 own: 1 and -240
        due.is("1 and -240", x.rankOf(1, TURN), -119);
    }

    @Sentence("without such ones as EAR.")
    static void turnOfFeetWithoutNear(Due due) {
        LongColumn x = Due.of("keep 1 every 1;feet 1 every 55");
        due.is("no DRUM", x.rankOf(1, TURN), 0);
        x.drum(0, 99, -20);
        due.is("LAG 50 and 20, by half", x.rankOf(1, TURN), 35);
        x.rule(3, 55);
        due.is("they feel one: LAG 50, by half", x.rankOf(1, TURN), 25);
        LongColumn y = Due.of("feet 1 every 1 part 100");
        y.drum(55, 99, 0);
        due.is("one alone", y.rankOf(0, TURN), 50);
    }

    @Sentence("FEET: by all other RANKS")
    static void turnOfFeetOf24(Due due) {
        LongColumn x = Due.of("feet 24 every 1");
        x.rule(3, 500);
        // LAGS of 1 to 23 feet are 240 together: 10 by 23, and half of that
        due.is("the first", x.rankOf(0, TURN), 5);
        due.is("the last", x.rankOf(23, TURN), 5);
        x.change(23, OUT, 230);
        // 240 and 230 by 23
        due.is("the first feels the last", x.rankOf(0, TURN), 10);
    }

    @Sentence("TOLD: WRAPPED (ORDER less OUT)")
    static void turnOfTold(Due due) {
        int[] order = {120, 250, 251, -250, -249, 999, -999};
        int[] turn = {120, 250, -249, 250, -249, -1, 1};
        for (int i = 0; i < order.length; i++) {
            LongColumn x = Due.of("told 1 every 1 part 0");
            x.drum(0, 99, 33);
            x.rule(4, order[i]);
            due.is("ORDER " + order[i], x.rankOf(0, TURN), turn[i]);
        }
        LongColumn y = Due.of("told 1 every 1");
        y.change(0, OUT, 250);
        due.is("less OUT", y.rankOf(0, TURN), 250);
        y.change(0, OUT, -20);
        due.is("less OUT below 0", y.rankOf(0, TURN), 20);
    }

    @Sentence("FREE: DRIFT.")
    static void turnOfFree(Due due) {
        LongColumn x = Due.of("free 1 every 1 part 0 drift 99");
        x.change(0, OUT, 10);
        x.rule(0, 100);
        due.is("the most, not WRAPPED", x.rankOf(0, TURN), 99);
        x.change(0, 4, -99);
        due.is("the least, not WRAPPED", x.rankOf(0, TURN), -99);
        x.change(0, 4, 0);
        due.is("none", x.rankOf(0, TURN), 0);
    }

    @Sentence("7 TURN")
    static void turnChangesNothing(Due due) {
        LongColumn x = Due.some();
        String before = Seen.of(x);
        for (int rank = 0; rank < 3; rank++) {
            x.rankOf(rank, TURN);
            x.rankOf(rank, DRUM);
        }
        due.holds("as it was", Seen.of(x).equals(before));
    }
}
