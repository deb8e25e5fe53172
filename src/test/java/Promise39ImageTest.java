/** Promise 39: image, seen by undo. */
public final class Promise39ImageTest {
    private static final int OUT = 5;

    public static void main(String[] args) {
        Promise.run(Promise39ImageTest.class);
    }

    @Sentence("All but THE TAPE and SHEETS is kept: 1.")
    static void answers1(Due due) {
        LongColumn x = Due.some();
        String before = Seen.of(x);
        due.is("the first", x.image(), 1);
        due.is("another one", x.image(), 1);
        due.holds("nothing changes by it", Seen.of(x).equals(before));
        due.is("without RANKS", new LongColumn().image(), 1);
    }

    @Sentence("All but THE TAPE and SHEETS is kept")
    static void rulesAreKept(Due due) {
        LongColumn x = new LongColumn();
        int[] kept = {600, 1200, 10, 40, 5, 6, 7};
        for (int what = 0; what < kept.length; what++) {
            x.rule(what, kept[what]);
        }
        x.image();
        for (int what = 0; what < kept.length; what++) {
            x.rule(what, kept[what] + 100);
        }
        x.undo();
        for (int what = 0; what < kept.length; what++) {
            due.is("rule " + what, x.rule(what, kept[what]), kept[what]);
        }
    }

    @Sentence("All but THE TAPE and SHEETS is kept")
    static void ranksAreKept(Due due) {
        LongColumn x = Due.of("eye 2 every 5 part 1 share 2 drift 3");
        x.change(1, OUT, 4);
        x.image();
        for (int what = 2; what <= 5; what++) {
            x.change(1, what, 90 + what);
        }
        Due.column(x, "told 3 every 7");
        x.undo();
        int[] of = {2, 5, 1, 2, 3, 4};
        for (int what = 0; what < of.length; what++) {
            due.is("what " + what, x.rankOf(1, what), of[what]);
        }
        due.is("how many", x.count(0), 2);
        due.is("no third one", x.rankOf(2, 0), Due.BEYOND);
    }

    @Sentence("All but THE TAPE and SHEETS is kept")
    static void outIsKeptAsItWas(Due due) {
        LongColumn x = Due.of("keep 2 every 1");
        x.change(0, OUT, 250);
        x.change(1, OUT, -249);
        x.image();
        x.rule(0, 100);
        due.outs("WRAPPED anew", x, 50, -49);
        x.undo();
        due.outs("as it was", x, 250, -249);
    }

    @Sentence("All but THE TAPE and SHEETS is kept")
    static void drumsAreKept(Due due) {
        LongColumn x = new LongColumn();
        x.drum(1, 2, 3);
        x.image();
        x.carry(0, 9);
        for (int drum = 1; drum < 6; drum++) {
            x.drum(10, 11, 12);
        }
        x.undo();
        due.is("how many", x.count(1), 1);
        int[] of = {1, 2, 3};
        for (int what = 0; what < of.length; what++) {
            due.is("what " + what, x.drumOf(0, what), of[what]);
        }
        due.is("there is room again", x.drum(20, 21, 22), 1);
        due.is("the new one's place", x.drumOf(1, 0), 20);
        due.is("the new one's LOUD", x.drumOf(1, 1), 21);
        due.is("the new one's AHEAD", x.drumOf(1, 2), 22);
    }

    @Sentence("All but THE TAPE and SHEETS is kept")
    static void bendsAreKept(Due due) {
        LongColumn x = Due.of("keep 3 every 55");
        x.bend(0);
        x.image();
        for (int bend = 1; bend < 6; bend++) {
            x.bend(55);
        }
        due.is("by mouth twice", x.begin(2, 2), 300);
        x.undo();
        due.is("how many", x.count(2), 1);
        due.is("by mouth once", x.begin(2, 2), 170);
        due.is("there is room again", x.bend(109), 2);
        due.is("by mouth twice again", x.begin(2, 2), 300);
    }

    @Sentence("All but THE TAPE and SHEETS is kept")
    static void spotsAreKept(Due due) {
        LongColumn x = Due.of("keep 3 every 1");
        x.hold(0, 2);
        x.hold(9, 1);
        x.image();
        x.hold(0, 1);
        x.hold(9, -1);
        x.hold(5, 0);
        x.undo();
        due.is("how many", x.count(5), 2);
        due.is("0", x.as(0, 0), 2);
        due.is("9", x.as(9, 0), 1);
        due.is("5", x.as(5, 0), Due.MISSING);
    }

    @Sentence("All but THE TAPE and SHEETS is kept")
    static void zIsKept(Due due) {
        LongColumn x = Due.of("keep 1 every 1");
        x.seed(-1000001);
        x.image();
        x.shake(9);
        x.undo();
        due.is("z", x.count(4), -1000001);
    }

    @Sentence("All but THE TAPE and SHEETS")
    static void theTapeIsNot(Due due) {
        LongColumn x = new LongColumn();
        Due.feed(x, "ear 1");
        x.image();
        Due.feed(x, " every 1");
        x.undo();
        due.is("bytes", x.count(3), 13);
        due.is("the whole TEXT", x.column(), 1);
        x.undo();
        due.is("it does not come back", x.count(3), 0);
    }

    @Sentence("All but THE TAPE and SHEETS")
    static void sheetsAreNot(Due due) {
        LongColumn x = Due.of("keep 2 every 1");
        x.sheet(0, 8, 2);
        x.sheet(1, 8, 2);
        x.image();
        x.write(0, 1, 9);
        x.sheet(1, 0, 0);
        x.sheet(2, 16, 1);
        x.undo();
        due.is("0 is written", x.load(0), 2);
        due.outs("0", x, 0, 9);
        due.is("1 is MISSING", x.load(1), Due.MISSING);
        due.is("2 is there", x.load(2), 1);
    }

    @Sentence("All but THE TAPE and SHEETS is kept")
    static void allOfAFullColumn(Due due) {
        LongColumn x = Due.of("keep 24 every 1");
        x.change(23, OUT, 24);
        x.hold(9, 23);
        x.image();
        x.change(23, OUT, 0);
        x.hold(9, 0);
        due.is("24", x.undo(), 24);
        due.is("OUT of the last", x.rankOf(23, OUT), 24);
        due.is("place of the last", x.rankOf(23, 1), 23);
        due.is("the SPOT", x.as(9, 0), 23);
    }

    @Sentence("All but THE TAPE and SHEETS is kept")
    static void anotherImageTakesItsPlace(Due due) {
        LongColumn x = Due.of("keep 1 every 1");
        x.image();
        x.change(0, OUT, 8);
        x.image();
        x.change(0, OUT, 9);
        x.undo();
        due.outs("the latest", x, 8);
    }
}
