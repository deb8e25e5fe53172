/** Promises 1 to 12: rules, texts, RANKS, DRUMS, BENDS, LAG. */
public final class RulesTextsTest {
    private static final Due DUE = new Due();

    public static void main(String[] args) {
        newObject();
        rule();
        paceWrapsAnew();
        feed();
        wipe();
        column();
        faults();
        columnFull();
        rankOf();
        turnOfKeeperToldFree();
        turnOfEar();
        turnOfEye();
        turnOfMixed();
        turnOfFeet();
        change();
        drum();
        whichDrum();
        drumOfAndCarry();
        bend();
        lag();
        DUE.end();
    }

    private static void newObject() {
        LongColumn x = new LongColumn();
        for (int what = 0; what <= 5; what++) {
            DUE.is("1: count(" + what + ")", x.count(what), what == 4 ? 1 : 0);
        }
        int[] first = {500, 1100, 0, 30, 0, 100, 20};
        for (int what = 0; what < first.length; what++) {
            DUE.is("1: rule " + what, x.rule(what, first[what]), first[what]);
        }
        for (int which = -1; which <= 6; which++) {
            DUE.is("1: status(" + which + ")", x.status(which), 0);
        }
        DUE.is("1: undo", x.undo(), Due.NONE);
        DUE.is("1: tear", x.tear(), 0);
        for (int spot = 0; spot < 10; spot++) {
            DUE.is("1: as " + spot, x.as(spot, 0), Due.MISSING);
        }
        for (int s = 0; s < 4; s++) {
            DUE.is("1: load " + s, x.load(s), Due.MISSING);
        }
    }

    private static void rule() {
        int[] least = {100, 500, -200, 0, -999, 0, 0};
        int[] most = {2000, 2000, 200, 500, 999, 999, 999};
        LongColumn x = new LongColumn();
        for (int what = 0; what < least.length; what++) {
            x.rule(what, least[what]);
            DUE.is("2: below " + what, x.rule(what, least[what] - 1), Due.BEYOND);
            DUE.is("2: least " + what, x.rule(what, most[what]), least[what]);
            DUE.is("2: above " + what, x.rule(what, most[what] + 1), Due.BEYOND);
            DUE.is("2: far " + what, x.rule(what, Integer.MIN_VALUE), Due.BEYOND);
            DUE.is("2: most " + what, x.rule(what, most[what]), most[what]);
        }
        DUE.is("2: what -1", x.rule(-1, 500), Due.BEYOND);
        DUE.is("2: what 7", x.rule(7, 500), Due.BEYOND);
        DUE.is("2: what far", x.rule(Integer.MAX_VALUE, 500), Due.BEYOND);
    }

    private static void paceWrapsAnew() {
        LongColumn x = Due.of("keep 4 every 1");
        x.change(0, 5, 240);
        x.change(1, 5, 150);
        x.change(2, 5, -150);
        x.change(3, 5, -151);
        x.rule(0, 300);
        int[] out = {-60, 150, 150, 149};
        for (int rank = 0; rank < 4; rank++) {
            DUE.is("2: OUT anew " + rank, x.rankOf(rank, 5), out[rank]);
        }
        x.rule(0, 500);
        for (int rank = 0; rank < 4; rank++) {
            DUE.is("2: OUT stays " + rank, x.rankOf(rank, 5), out[rank]);
        }
        x.rule(0, 101);
        DUE.is("2: odd PACE", x.rankOf(1, 5), 49);
        x.change(0, 5, 51);
        DUE.is("2: odd PACE, above half", x.rankOf(0, 5), -50);
        x.change(0, 5, -50);
        DUE.is("2: odd PACE, half", x.rankOf(0, 5), -50);
        x.change(0, 5, -51);
        DUE.is("2: odd PACE, below half", x.rankOf(0, 5), 50);
    }

    private static void feed() {
        LongColumn x = new LongColumn();
        DUE.is("3: n 0", x.feed(1, 0), Due.BEYOND);
        DUE.is("3: n 5", x.feed(1, 5), Due.BEYOND);
        DUE.is("3: n -1", x.feed(1, -1), Due.BEYOND);
        DUE.is("3: three", x.feed(0x41656172, 3), 3);
        DUE.is("3: four", x.feed(0x20312065, 4), 7);
        DUE.is("3: four more", x.feed(0x76657279, 4), 11);
        DUE.is("3: two", x.feed(0x7f7f2037, 2), 13);
        DUE.is("3: it is a TEXT", x.column(), 1);
        for (int i = 1; i <= 29; i++) {
            DUE.is("3: fill", x.feed(-1, 4), 4 * i);
        }
        DUE.is("3: 117", x.feed(0, 1), 117);
        DUE.is("3: FULL by 1", x.feed(0, 4), Due.FULL);
        DUE.is("3: BEYOND first", x.feed(0, 5), Due.BEYOND);
        DUE.is("3: FULL adds none", x.count(3), 117);
        DUE.is("3: 120", x.feed(0, 3), 120);
        DUE.is("3: FULL", x.feed(0, 1), Due.FULL);
    }

    private static void wipe() {
        LongColumn x = new LongColumn();
        DUE.is("4: empty", x.wipe(), 0);
        x.feed(0, 3);
        DUE.is("4: three", x.wipe(), 3);
        DUE.is("4: again", x.wipe(), 0);
        DUE.is("4: feed behind it", x.feed(0, 2), 2);
    }

    private static void column() {
        LongColumn x = new LongColumn();
        DUE.is("5: seven kinds", Due.column(x, "keep 1 every 9;ear 1 every 2;eye 1 every 3;mix 1 every 4;"
                + "feet 1 every 5;told 1 every 6;free 2 every 200"), 8);
        int[] places = {0, 2, 5, 9, 14, 20, 220, 420};
        int[] kinds = {0, 1, 2, 3, 4, 5, 6, 6};
        for (int rank = 0; rank < 8; rank++) {
            DUE.is("5: kind " + rank, x.rankOf(rank, 0), kinds[rank]);
            DUE.is("5: place " + rank, x.rankOf(rank, 1), places[rank]);
            DUE.is("5: part " + rank, x.rankOf(rank, 2), 50);
            DUE.is("5: share " + rank, x.rankOf(rank, 3), 50);
            DUE.is("5: drift " + rank, x.rankOf(rank, 4), 0);
            DUE.is("5: out " + rank, x.rankOf(rank, 5), 0);
        }
        DUE.is("5: the tape is empty", x.count(3), 0);
        DUE.is("5: behind those", Due.column(x, "  ear2every0010part1share2drift3part 0  drift 99 share 100 ;"
                + "eye 1 every 1"), 11);
        int[] due = {1, 430, 0, 100, 99};
        for (int what = 0; what < due.length; what++) {
            DUE.is("5: of 8, " + what, x.rankOf(8, what), due[what]);
        }
        DUE.is("5: place of 9", x.rankOf(9, 1), 440);
        DUE.is("5: place of 10", x.rankOf(10, 1), 441);
        DUE.is("5: words of a GROUP are its own", x.rankOf(10, 2), 50);
        LongColumn y = Due.of("free 1 every 1 part 7 share 8 drift 9");
        Due.column(y, "free 1 every 1");
        DUE.is("5: words of a TEXT are its own, part", y.rankOf(1, 2), 50);
        DUE.is("5: words of a TEXT are its own, share", y.rankOf(1, 3), 50);
        DUE.is("5: words of a TEXT are its own, drift", y.rankOf(1, 4), 0);
        StringBuilder most = new StringBuilder("ear1every1");
        for (int i = 1; i < 11; i++) {
            most.append(";ear1every1");
        }
        DUE.is("5: eleven GROUPS in 120 bytes", Due.column(new LongColumn(), most.toString()), 11);
        DUE.is("5: 24 at once", Due.column(new LongColumn(), "ear 24 every 200"), 24);
    }

    private static void fault(String text, int fault) {
        LongColumn x = new LongColumn();
        DUE.is("5: FAULT of '" + text + "'", Due.column(x, text), -1 - fault);
        DUE.is("5: no RANKS of '" + text + "'", x.count(0), 0);
        DUE.is("5: no tape of '" + text + "'", x.count(3), 0);
        DUE.is("5: no finding of '" + text + "'", x.status(-1), 0);
    }

    private static void faults() {
        fault("", 0);
        fault("   ", 3);
        fault("ear", 3);
        fault("ear  ", 5);
        fault("ear 1 every", 11);
        fault("ear 1 every 1 part ", 19);
        fault("ear 1 every 1;", 14);
        fault("ear 1 every 1 ; ", 16);
        fault("ear 1 every 1;;", 14);
        fault(";", 0);
        fault("ear;1", 3);
        fault("12", 0);
        fault("ears 1 every 1", 0);
        fault("earevery", 0);
        fault("earz 1 every 1", 0);
        fault("xar 1 every 1", 0);
        fault("ear 1 avery 1", 6);
        fault(" Ear 1 every 1", 1);
        fault("every 1 ear 1", 0);
        fault("ear every 1", 4);
        fault("ear 0 every 1", 4);
        fault("ear 25 every 1", 4);
        fault("ear 99999999999999999999 every 1", 4);
        fault("ear 4294967297 every 1", 4);
        fault("ear 1 1", 6);
        fault("ear 1 part 1", 6);
        fault("ear 1 everyy 1", 6);
        fault("ear 1 every 0", 12);
        fault("ear 1 every 201", 12);
        fault("ear 1 every x", 12);
        fault("ear 1 every 1 2", 14);
        fault("ear 1 every 1 ear 1 every 1", 14);
        fault("ear 1 every 1 part 101", 19);
        fault("ear 1 every 1 share 101", 20);
        fault("ear 1 every 1 drift 100", 20);
        fault("ear 1 every 1 part -1", 19);
        fault("ear 1 every 1 part;", 18);
        fault("ear 1 every 1 part 1 part", 25);
        fault("ear 1 every 1\t", 13);
        fault("ear 1 every 1; ear 1 every 1 @", 29);
        fault("ear 1 every 1" + (char) 229, 13);
        fault("ear 1 every 1" + (char) 0, 13);
        fault("ear 24 every 1;ear 24 every 1;x", 30);
    }

    private static void columnFull() {
        LongColumn x = Due.of("ear 20 every 1");
        DUE.is("5: FULL", Due.column(x, "eye 2 every 1;eye 3 every 1"), Due.FULL);
        DUE.is("5: FULL adds none", x.count(0), 20);
        DUE.is("5: FULL empties the tape", x.count(3), 0);
        DUE.is("5: FULL is counted", x.status(1), 1);
        DUE.is("5: FAULT ahead of FULL", Due.column(x, "eye 5 every 1;"), -15);
        DUE.is("5: room for four", Due.column(x, "eye 4 every 1"), 24);
        DUE.is("5: no room at all", Due.column(x, "eye 1 every 1"), Due.FULL);
    }

    private static void rankOf() {
        LongColumn x = Due.of("ear 2 every 50 part 10 share 20 drift 30");
        x.change(1, 5, -7);
        int[] due = {1, 50, 10, 20, 30, -7, -1, 0};
        for (int what = 0; what < due.length; what++) {
            DUE.is("6: what " + what, x.rankOf(1, what), due[what]);
        }
        DUE.is("6: rank -1", x.rankOf(-1, 0), Due.BEYOND);
        DUE.is("6: rank 2", x.rankOf(2, 0), Due.BEYOND);
        DUE.is("6: what -1", x.rankOf(0, -1), Due.BEYOND);
        DUE.is("6: what 8", x.rankOf(0, 8), Due.BEYOND);
        DUE.is("6: far", x.rankOf(Integer.MIN_VALUE, Integer.MAX_VALUE), Due.BEYOND);
    }

    private static void turnOfKeeperToldFree() {
        LongColumn x = Due.of("keep 1 every 1;told 1 every 1 part 0;free 1 every 1 part 0 drift 7");
        x.drum(0, 99, 50);
        x.change(0, 5, 100);
        DUE.is("6: KEEPER", x.rankOf(0, 7), 0);
        x.rule(4, 120);
        DUE.is("6: TOLD", x.rankOf(1, 7), 120);
        x.change(1, 5, 20);
        DUE.is("6: TOLD less OUT", x.rankOf(1, 7), 100);
        x.rule(4, 999);
        x.change(1, 5, 0);
        DUE.is("6: TOLD, WRAPPED", x.rankOf(1, 7), -1);
        DUE.is("6: FREE", x.rankOf(2, 7), 7);
        x.change(2, 4, -99);
        DUE.is("6: FREE, backwards", x.rankOf(2, 7), -99);
    }

    private static void turnOfEar() {
        LongColumn x = Due.of("ear 2 every 55");
        DUE.is("6: EAR without a DRUM", x.rankOf(1, 7), 0);
        x.drum(0, 20, 0);
        DUE.is("6: EAR", x.rankOf(1, 7), 25);
        x.change(1, 5, -1);
        DUE.is("6: EAR, cut", x.rankOf(1, 7), 25);
        x.change(1, 5, 51);
        DUE.is("6: EAR, cut to 0", x.rankOf(1, 7), 0);
        x.change(1, 5, 61);
        DUE.is("6: EAR, cut upwards", x.rankOf(1, 7), -5);
        x.change(1, 5, -220);
        DUE.is("6: EAR, WRAPPED", x.rankOf(1, 7), -115);
        x.change(1, 5, -200);
        DUE.is("6: EAR, half a PACE", x.rankOf(1, 7), 125);
        x.change(1, 2, 100);
        DUE.is("6: EAR, PART 100", x.rankOf(1, 7), 250);
        x.drum(55, 21, 30);
        DUE.is("6: EAR by another DRUM, AHEAD", x.rankOf(1, 7), 170);
    }

    private static void turnOfEye() {
        LongColumn x = Due.of("eye 1 every 1;eye 1 every 10 part 33;keep 1 every 10");
        x.change(2, 5, 77);
        x.change(0, 5, 100);
        DUE.is("6: EYE of RANK 0", x.rankOf(0, 7), 0);
        DUE.is("6: EYE", x.rankOf(1, 7), 33);
        x.change(1, 5, 205);
        DUE.is("6: EYE, cut upwards", x.rankOf(1, 7), -34);
        x.change(1, 5, -200);
        DUE.is("6: EYE, WRAPPED", x.rankOf(1, 7), -66);
        x.bend(10);
        DUE.is("6: EYE, a BEND at its own place", x.rankOf(1, 7), -66);
        LongColumn y = x;
        y.image();
        y.bend(0);
        DUE.is("6: EYE, a BEND at the place ahead", y.rankOf(1, 7), 0);
        y.undo();
        y.bend(9);
        DUE.is("6: EYE, a BEND just ahead", y.rankOf(1, 7), 0);
    }

    private static void turnOfMixed() {
        LongColumn x = Due.of("mix 1 every 1;mix 1 every 57 share 50");
        x.change(0, 5, 101);
        DUE.is("6: MIXED, nobody drums", x.rankOf(1, 7), 25);
        x.drum(0, 20, 0);
        // 101 by half is 50, LAG 51 by half is 25
        DUE.is("6: MIXED, cut first", x.rankOf(1, 7), 37);
        x.change(1, 3, 0);
        DUE.is("6: MIXED as EAR", x.rankOf(1, 7), 25);
        x.change(1, 3, 100);
        DUE.is("6: MIXED as EYE", x.rankOf(1, 7), 50);
        x.change(1, 3, 25);
        DUE.is("6: MIXED, a quarter", x.rankOf(1, 7), 31);
        DUE.is("6: MIXED of RANK 0", x.rankOf(0, 7), -25);
        x.bend(30);
        DUE.is("6: MIXED behind a BEND", x.rankOf(1, 7), 18);
        LongColumn y = Due.of("keep 1 every 1;mix 1 every 1 part 100 share 100");
        y.change(0, 5, 99);
        DUE.is("6: MIXED, whole", y.rankOf(1, 7), 99);
    }

    private static void turnOfFeet() {
        LongColumn x = Due.of("keep 1 every 1;feet 1 every 11 part 100;keep 1 every 11");
        DUE.is("6: FEET", x.rankOf(1, 7), 10);
        x.change(0, 5, 5);
        DUE.is("6: FEET, the mean cut", x.rankOf(1, 7), 12);
        x.change(1, 2, 50);
        DUE.is("6: FEET, PART", x.rankOf(1, 7), 6);
        x.change(1, 2, 100);
        x.change(0, 5, 250);
        DUE.is("6: FEET, each WRAPPED", x.rankOf(1, 7), -115);
        x.change(0, 5, 0);
        x.change(1, 5, 15);
        DUE.is("6: FEET less OUT", x.rankOf(1, 7), -5);
        x.change(1, 5, 0);
        x.rule(2, 100);
        DUE.is("6: FEET by WIND", x.rankOf(1, 7), 10);
        x.change(2, 5, -30);
        // 9 from ahead, 11 less 30 from behind
        DUE.is("6: FEET, cut upwards", x.rankOf(1, 7), -5);
        x.rule(3, 11);
        DUE.is("6: FEET, just NEAR", x.rankOf(1, 7), -5);
        x.drum(0, 99, -20);
        DUE.is("6: FEET do not hear", x.rankOf(1, 7), -5);
        x.rule(3, 10);
        DUE.is("6: FEET as EAR", x.rankOf(1, 7), 29);
        LongColumn y = Due.of("feet 1 every 1");
        DUE.is("6: FEET alone", y.rankOf(0, 7), 0);
        y = Due.of("feet 2 every 10 part 100;keep 1 every 20");
        // LAG 9 from 10 feet off, 18 from 20, 27 from 30
        DUE.is("6: FEET of RANK 0", y.rankOf(0, 7), 18);
        DUE.is("6: FEET by two", y.rankOf(1, 7), 13);
        y.rule(3, 15);
        DUE.is("6: FEET by one", y.rankOf(1, 7), 9);
    }

    private static void change() {
        LongColumn x = Due.of("ear 2 every 5 part 1 share 2 drift 3");
        int[] least = {0, 0, -99};
        int[] most = {100, 100, 99};
        for (int what = 2; what <= 4; what++) {
            DUE.is("7: was " + what, x.change(1, what, least[what - 2]), what - 1);
            DUE.is("7: below " + what, x.change(1, what, least[what - 2] - 1), Due.BEYOND);
            DUE.is("7: least " + what, x.change(1, what, most[what - 2]), least[what - 2]);
            DUE.is("7: above " + what, x.change(1, what, most[what - 2] + 1), Due.BEYOND);
            DUE.is("7: most " + what, x.rankOf(1, what), most[what - 2]);
            DUE.is("7: the other one " + what, x.rankOf(0, what), what - 1);
        }
        DUE.is("7: OUT was", x.change(1, 5, 251), 0);
        DUE.is("7: OUT, WRAPPED", x.change(1, 5, -250), -249);
        DUE.is("7: OUT, half", x.rankOf(1, 5), 250);
        DUE.is("7: what 0", x.change(1, 0, 1), Due.BEYOND);
        DUE.is("7: what 1", x.change(1, 1, 1), Due.BEYOND);
        DUE.is("7: what 6", x.change(1, 6, 1), Due.BEYOND);
        DUE.is("7: rank 2", x.change(2, 5, 1), Due.BEYOND);
        DUE.is("7: rank -1", x.change(-1, 5, 1), Due.BEYOND);
    }

    private static void drum() {
        LongColumn x = new LongColumn();
        DUE.is("8: at -1", x.drum(-1, 1, 0), Due.BEYOND);
        DUE.is("8: at 5000", x.drum(5000, 1, 0), Due.BEYOND);
        DUE.is("8: loud 0", x.drum(0, 0, 0), Due.BEYOND);
        DUE.is("8: loud 100", x.drum(0, 100, 0), Due.BEYOND);
        DUE.is("8: ahead -1000", x.drum(0, 1, -1000), Due.BEYOND);
        DUE.is("8: ahead 1000", x.drum(0, 1, 1000), Due.BEYOND);
        DUE.is("8: none came", x.count(1), 0);
        for (int i = 0; i < 6; i++) {
            DUE.is("8: number", x.drum(i % 2 * 4999, 1 + i % 2 * 98, -999 + i % 2 * 1998), i);
        }
        DUE.is("8: FULL", x.drum(0, 1, 0), Due.FULL);
        DUE.is("8: BEYOND ahead of FULL", x.drum(0, 0, 0), Due.BEYOND);
        DUE.is("8: six", x.count(1), 6);
    }

    private static void whichDrum() {
        LongColumn x = Due.of("ear 3 every 200");
        x.drum(0, 4, 0);
        DUE.is("6: DRUM at its place", x.rankOf(0, 6), 0);
        DUE.is("6: not loud enough", x.rankOf(1, 6), -1);
        x.drum(249, 1, 0);
        DUE.is("6: a fiftieth is cut", x.rankOf(1, 6), 1);
        x.carry(1, 250);
        DUE.is("6: below 1", x.rankOf(1, 6), -1);
        x.drum(400, 5, 0);
        DUE.is("6: just 1", x.rankOf(1, 6), 2);
        x.carry(0, 249);
        DUE.is("6: the loudest", x.rankOf(1, 6), 0);
        x.drum(249, 4, 0);
        DUE.is("6: the least of like ones", x.rankOf(1, 6), 0);
    }

    private static void drumOfAndCarry() {
        LongColumn x = new LongColumn();
        DUE.is("9: none yet", x.drumOf(0, 0), Due.BEYOND);
        x.drum(7, 8, 9);
        x.drum(10, 11, -12);
        int[] due = {10, 11, -12};
        for (int what = 0; what < 3; what++) {
            DUE.is("9: what " + what, x.drumOf(1, what), due[what]);
        }
        DUE.is("9: what -1", x.drumOf(1, -1), Due.BEYOND);
        DUE.is("9: what 3", x.drumOf(1, 3), Due.BEYOND);
        DUE.is("9: drum 2", x.drumOf(2, 0), Due.BEYOND);
        DUE.is("9: drum -1", x.drumOf(-1, 0), Due.BEYOND);
        DUE.is("10: it was", x.carry(1, 4999), 10);
        DUE.is("10: it is", x.drumOf(1, 0), 4999);
        DUE.is("10: the other one", x.drumOf(0, 0), 7);
        DUE.is("10: at 5000", x.carry(1, 5000), Due.BEYOND);
        DUE.is("10: at -1", x.carry(1, -1), Due.BEYOND);
        DUE.is("10: drum 2", x.carry(2, 0), Due.BEYOND);
        DUE.is("10: drum -1", x.carry(-1, 0), Due.BEYOND);
        DUE.is("10: it stays", x.carry(1, 0), 4999);
    }

    private static void bend() {
        LongColumn x = new LongColumn();
        DUE.is("11: at -1", x.bend(-1), Due.BEYOND);
        DUE.is("11: at 5000", x.bend(5000), Due.BEYOND);
        for (int i = 1; i <= 6; i++) {
            DUE.is("11: how many", x.bend(i < 3 ? 0 : 4999), i);
        }
        DUE.is("11: FULL", x.bend(1), Due.FULL);
        DUE.is("11: BEYOND ahead of FULL", x.bend(5000), Due.BEYOND);
        DUE.is("11: six", x.count(2), 6);
    }

    private static void lag() {
        LongColumn x = new LongColumn();
        DUE.is("12: the same place", x.lag(17, 17), 0);
        DUE.is("12: forth", x.lag(0, 57), 51);
        DUE.is("12: back", x.lag(57, 0), 51);
        x.rule(1, 500);
        x.rule(2, 200);
        DUE.is("12: with WIND", x.lag(0, 4999), 7141);
        DUE.is("12: against WIND", x.lag(4999, 0), 16663);
        x.rule(2, -200);
        DUE.is("12: WIND from behind", x.lag(0, 4999), 16663);
        DUE.is("12: from -1", x.lag(-1, 0), Due.BEYOND);
        DUE.is("12: from 5000", x.lag(5000, 0), Due.BEYOND);
        DUE.is("12: to -1", x.lag(0, -1), Due.BEYOND);
        DUE.is("12: to 5000", x.lag(0, 5000), Due.BEYOND);
    }
}
