/** Promise 1: a new object. */
public final class Promise01NewObjectTest {
    public static void main(String[] args) {
        Promise.run(Promise01NewObjectTest.class);
    }

    @Sentence("All as at first")
    static void rulesAreAsAtFirst(Due due) {
        LongColumn x = new LongColumn();
        int[] first = {500, 1100, 0, 30, 0, 100, 20};
        for (int what = 0; what < first.length; what++) {
            due.is("rule " + what, x.rule(what, first[what]), first[what]);
        }
    }

    @Sentence({"All as at first", "z is told (1 at first)"})
    static void zIsOne(Due due) {
        due.is("z", new LongColumn().count(4), 1);
    }

    @Sentence({"All as at first", "SPOTS 0 to 9 hold a RANK or nothing (at first)."})
    static void spotsHoldNothing(Due due) {
        LongColumn x = new LongColumn();
        due.is("none holds", x.count(5), 0);
        for (int spot = 0; spot <= 9; spot++) {
            due.is("SPOT " + spot, x.as(spot, 0), Due.MISSING);
        }
    }

    @Sentence({"All as at first", "or MISSING (at first)."})
    static void sheetsAreMissing(Due due) {
        LongColumn x = new LongColumn();
        for (int s = 0; s <= 3; s++) {
            due.is("SHEET " + s, x.load(s), Due.MISSING);
        }
    }

    @Sentence("All as at first")
    static void noActAnsweredAFinding(Due due) {
        LongColumn x = new LongColumn();
        for (int which = -1; which <= 6; which++) {
            due.is("status(" + which + ")", x.status(which), 0);
        }
    }

    @Sentence("no RANKS, DRUMS, BENDS")
    static void noRanks(Due due) {
        LongColumn x = new LongColumn();
        due.is("how many", x.count(0), 0);
        due.is("RANK 0", x.rankOf(0, 0), Due.BEYOND);
        due.is("all of 24 have room", Due.column(x, "ear 24 every 1"), 24);
    }

    @Sentence("no RANKS, DRUMS, BENDS")
    static void noDrums(Due due) {
        LongColumn x = new LongColumn();
        due.is("how many", x.count(1), 0);
        due.is("DRUM 0", x.drumOf(0, 0), Due.BEYOND);
        due.is("the first one", x.drum(0, 1, 0), 0);
    }

    @Sentence("no RANKS, DRUMS, BENDS")
    static void noBends(Due due) {
        LongColumn x = new LongColumn();
        due.is("how many", x.count(2), 0);
        Due.column(x, "keep 2 every 1");
        due.is("by hand, as there is none between", x.begin(2, 1), 20);
    }

    @Sentence("THE TAPE is empty")
    static void theTapeIsEmpty(Due due) {
        LongColumn x = new LongColumn();
        due.is("bytes", x.count(3), 0);
        due.is("wiped", x.wipe(), 0);
        due.is("as a TEXT", x.column(), -1);
    }

    @Sentence("no image is kept")
    static void noImageIsKept(Due due) {
        LongColumn x = new LongColumn();
        due.is("undo", x.undo(), Due.NONE);
        due.is("tear", x.tear(), 0);
    }

    @Sentence("All as at first")
    static void nothingComesFromAnotherObject(Due due) {
        LongColumn used = Due.some();
        used.rule(0, 100);
        used.image();
        used.count(-1);
        LongColumn x = new LongColumn();
        due.is("RANKS", x.count(0), 0);
        due.is("PACE", x.rule(0, 500), 500);
        due.is("findings", x.status(-1), 0);
        due.is("image", x.tear(), 0);
    }
}
