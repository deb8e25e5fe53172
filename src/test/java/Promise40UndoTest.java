/** Promise 40: undo. */
public final class Promise40UndoTest {
    private static final int OUT = 5;

    public static void main(String[] args) {
        Promise.run(Promise40UndoTest.class);
    }

    @Sentence("It becomes what was kept latest (which stays): how many RANKS.")
    static void howManyRanks(Due due) {
        LongColumn x = Due.of("keep 2 every 1");
        x.image();
        Due.column(x, "keep 3 every 1");
        due.is("two", x.undo(), 2);
        due.is("two are there", x.count(0), 2);
    }

    @Sentence("how many RANKS.")
    static void noneAnd24(Due due) {
        LongColumn x = new LongColumn();
        x.image();
        Due.column(x, "keep 24 every 1");
        due.is("none", x.undo(), 0);
        due.is("no RANK 0", x.rankOf(0, 0), Due.BEYOND);
        due.is("all of 24 have room again", Due.column(x, "eye 24 every 2"), 24);
        x.image();
        due.is("24", x.undo(), 24);
    }

    @Sentence("(which stays)")
    static void itStaysKept(Due due) {
        LongColumn x = Due.of("keep 1 every 1");
        x.change(0, OUT, 5);
        x.image();
        for (int i = 1; i <= 3; i++) {
            x.change(0, OUT, 50 + i);
            due.is("undo " + i, x.undo(), 1);
            due.outs("undo " + i, x, 5);
        }
        x.tread(1);
        x.shake(9);
        x.undo();
        due.outs("undo once more", x, 5);
    }

    @Sentence("what was kept latest")
    static void theLatest(Due due) {
        LongColumn x = Due.of("keep 1 every 1");
        x.image();
        x.change(0, OUT, 8);
        x.image();
        x.undo();
        due.outs("the latest", x, 8);
        x.undo();
        due.outs("not the one ahead of it", x, 8);
    }

    @Sentence("It becomes what was kept latest")
    static void whatWasAddedIsGone(Due due) {
        LongColumn x = Due.of("keep 1 every 1");
        x.image();
        Due.column(x, "free 2 every 9 part 1 share 2 drift 3");
        x.tread(5);
        x.undo();
        due.is("others come", Due.column(x, "eye 1 every 4"), 2);
        int[] of = {2, 4, 50, 50, 0, 0, -1, 0};
        for (int what = 0; what < of.length; what++) {
            due.is("what " + what, x.rankOf(1, what), of[what]);
        }
    }

    @Sentence("It becomes what was kept latest")
    static void nothingOfAMarchIsLeft(Due due) {
        LongColumn x = Due.of("keep 2 every 1");
        x.image();
        Due.column(x, "free 2 every 1 drift 5");
        x.worst(3);
        x.worst(4);
        x.undo();
        x.tread(1);
        Due.column(x, "keep 2 every 1");
        due.outs("those who come then", x, 0, 0, 0, 0);
    }

    @Sentence("NONE: nothing is kept.")
    static void nothingIsKept(Due due) {
        due.refuses("at first", Due.NONE, LongColumn::new, LongColumn::undo);
        due.refuses("it never was", Due.NONE, () -> Due.of("ear 3 every 1"), LongColumn::undo);
        due.refuses("it was torn", Due.NONE, Promise40UndoTest::torn, LongColumn::undo);
    }

    private static LongColumn torn() {
        LongColumn x = Due.some();
        x.image();
        x.change(0, OUT, 99);
        x.tear();
        return x;
    }

    @Sentence("It becomes what was kept latest")
    static void aRefusedActKeepsNothing(Due due) {
        LongColumn x = Due.of("keep 1 every 1");
        x.rule(-1, 0);
        x.tread(0);
        due.is("nothing is kept", x.undo(), Due.NONE);
    }
}
