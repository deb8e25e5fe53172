/** Promise 43: status. */
public final class Promise43StatusTest {
    public static void main(String[] args) {
        Promise.run(Promise43StatusTest.class);
    }

    private static void are(Due due, String what, LongColumn x, int... many) {
        int all = 0;
        for (int which = 0; which < many.length; which++) {
            due.is(what + ", " + which, x.status(which), many[which]);
            all += many[which];
        }
        due.is(what + ", all", x.status(-1), all);
    }

    @Sentence("FINDINGS are answers below -1000000: LOW is -1000001; LOW BEYOND, LOW - 1 FULL, LOW - 2 KIND, LOW - 3 NONE, "
            + "LOW - 4 STATE, LOW - 5 MISSING, LOW - 6 SIZE.")
    static void eachFinding(Due due) {
        LongColumn x = Due.of("keep 24 every 1");
        are(due, "none", x, 0, 0, 0, 0, 0, 0, 0);
        due.is("BEYOND", x.count(9), -1000001);
        are(due, "BEYOND", x, 1, 0, 0, 0, 0, 0, 0);
        due.is("FULL", Due.column(x, "keep 1 every 1"), -1000002);
        are(due, "FULL", x, 1, 1, 0, 0, 0, 0, 0);
        x.hold(0, 0);
        due.is("KIND", x.as(0, 1), -1000003);
        are(due, "KIND", x, 1, 1, 1, 0, 0, 0, 0);
        due.is("NONE", x.undo(), -1000004);
        are(due, "NONE", x, 1, 1, 1, 1, 0, 0, 0);
        due.is("MISSING", x.load(0), -1000006);
        are(due, "MISSING", x, 1, 1, 1, 1, 0, 1, 0);
        due.is("SIZE", x.sheet(0, 8, -1), -1000007);
        are(due, "SIZE", x, 1, 1, 1, 1, 0, 1, 1);
    }

    @Sentence("How many acts answered a finding ever (undo() takes none back): which -1: all, 0 to 6: BEYOND to SIZE.")
    static void undoTakesNoneBack(Due due) {
        LongColumn x = new LongColumn();
        x.count(9);
        x.image();
        x.count(9);
        x.load(0);
        x.undo();
        are(due, "behind undo", x, 2, 0, 0, 0, 0, 1, 0);
        x.tear();
        x.undo();
        are(due, "undo itself", x, 2, 0, 0, 1, 0, 1, 0);
    }

    @Sentence("How many acts answered a finding ever")
    static void whatIsNoFinding(Due due) {
        LongColumn x = Due.of("keep 1 every 1");
        x.seed(-1000001);
        x.seed(-1000004);
        x.count(4);
        Due.column(x, "x");
        x.column();
        x.tear();
        x.right(0, 0);
        x.sheet(0, 8, 0);
        x.judge(0);
        are(due, "none", x, 0, 0, 0, 0, 0, 0, 0);
    }

    @Sentence("one that answers a finding changes nothing but status().")
    static void itCountsEachAct(Due due) {
        LongColumn x = new LongColumn();
        for (int i = 1; i <= 200; i++) {
            x.march(0, i);
        }
        due.is("200 acts", x.status(0), 200);
        due.is("200 in all", x.status(-1), 200);
    }

    @Sentence("which -1: all, 0 to 6: BEYOND to SIZE.")
    static void whichAtItsEnds(Due due) {
        LongColumn x = new LongColumn();
        x.sheet(0, 8, -1);
        due.is("-1", x.status(-1), 1);
        due.is("0", x.status(0), 0);
        due.is("6", x.status(6), 1);
    }

    @Sentence("BEYOND (counted from then on): another one.")
    static void whichTooSmall(Due due) {
        due.refuses("-2", Due.BEYOND, Due::some, x -> x.status(-2));
        due.refuses("far", Due.BEYOND, Due::some, x -> x.status(Due.MIN));
    }

    @Sentence("BEYOND (counted from then on): another one.")
    static void whichTooLarge(Due due) {
        due.refuses("7", Due.BEYOND, Due::some, x -> x.status(7));
        due.refuses("far", Due.BEYOND, Due::some, x -> x.status(Due.MAX));
    }

    @Sentence("(counted from then on)")
    static void itCountsItself(Due due) {
        LongColumn x = new LongColumn();
        due.is("7", x.status(7), Due.BEYOND);
        due.is("once", x.status(0), 1);
        due.is("-2", x.status(-2), Due.BEYOND);
        due.is("twice", x.status(0), 2);
        due.is("twice in all", x.status(-1), 2);
        due.is("asking does not count", x.status(-1), 2);
    }
}
