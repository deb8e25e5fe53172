/** Promise 36: copy. */
public final class Promise36CopyTest {
    public static void main(String[] args) {
        Promise.run(Promise36CopyTest.class);
    }

    /** Sheet 0: 1 to 5; sheet 1: three times 0; sheet 2 is MISSING; sheet 3 is of other bits. */
    private static LongColumn sheets() {
        LongColumn x = Due.of("keep 5 every 1");
        x.sheet(0, 8, 5);
        for (int i = 0; i < 5; i++) {
            x.write(0, i, i + 1);
        }
        x.sheet(1, 8, 3);
        x.sheet(3, 16, 5);
        return x;
    }

    private static void sheetIs(Due due, String what, LongColumn x, int s, int... numbers) {
        due.is(what + ", how many", x.load(s), numbers.length);
        due.outs(what, x, numbers);
    }

    private static void refuses(Due due, String what, int finding, int... a) {
        due.refuses(what, finding, Promise36CopyTest::sheets, x -> x.copy(a[0], a[1], a[2], a[3], a[4]));
    }

    @Sentence("n numbers of a sheet from one on come to another one from one on (as they all were): n.")
    static void toAnother(Due due) {
        LongColumn x = sheets();
        due.is("two", x.copy(0, 3, 1, 1, 2), 2);
        sheetIs(due, "where they come", x, 1, 0, 4, 5);
        sheetIs(due, "whence they come", x, 0, 1, 2, 3, 4, 5);
        due.is("all of them", x.copy(1, 0, 0, 2, 3), 3);
        sheetIs(due, "all of them", x, 0, 1, 2, 0, 4, 5);
    }

    @Sentence("(as they all were)")
    static void ontoItself(Due due) {
        LongColumn x = sheets();
        due.is("forth", x.copy(0, 0, 0, 1, 4), 4);
        sheetIs(due, "forth", x, 0, 1, 1, 2, 3, 4);
        LongColumn y = sheets();
        due.is("back", y.copy(0, 1, 0, 0, 4), 4);
        sheetIs(due, "back", y, 0, 2, 3, 4, 5, 5);
        LongColumn z = sheets();
        due.is("where they are", z.copy(0, 0, 0, 0, 5), 5);
        sheetIs(due, "where they are", z, 0, 1, 2, 3, 4, 5);
    }

    @Sentence({"n numbers of a sheet", "rows of at most 40 numbers"})
    static void allOf40(Due due) {
        LongColumn x = Due.of("keep 1 every 1");
        x.sheet(0, 32, 40);
        x.sheet(1, 32, 40);
        x.write(0, 39, 7);
        due.is("40", x.copy(0, 0, 1, 0, 40), 40);
        due.is("the last", x.copy(1, 39, 1, 0, 1), 1);
        sheetIs(due, "the last", x, 1, 7);
        due.is("41", x.copy(0, 0, 1, 0, 41), Due.BEYOND);
    }

    @Sentence({"(told with their sign", "come to another one"})
    static void withTheirSign(Due due) {
        LongColumn x = sheets();
        x.write(0, 0, 200);
        x.copy(0, 0, 1, 2, 1);
        sheetIs(due, "200 of 8 bits", x, 1, 0, 0, -56);
    }

    @Sentence("one has not so many (n 0, too)")
    static void none(Due due) {
        LongColumn x = sheets();
        due.is("at the first", x.copy(0, 0, 1, 0, 0), 0);
        due.is("at both ends", x.copy(0, 5, 1, 3, 0), 0);
        sheetIs(due, "nothing came", x, 1, 0, 0, 0);
    }

    @Sentence("one has not so many (n 0, too)")
    static void noneBehindTheEnd(Due due) {
        refuses(due, "from", Due.BEYOND, 0, 6, 1, 0, 0);
        refuses(due, "to", Due.BEYOND, 0, 0, 1, 4, 0);
        refuses(due, "from far", Due.BEYOND, 0, Due.MAX, 1, 0, 0);
        refuses(due, "to far", Due.BEYOND, 0, 0, 1, Due.MAX, 0);
    }

    @Sentence({"one has not so many (n 0, too)", "n numbers of a sheet"})
    static void ofAnEmptySheet(Due due) {
        LongColumn x = sheets();
        x.sheet(2, 8, 0);
        due.is("none", x.copy(2, 0, 0, 0, 0), 0);
        due.is("none to it", x.copy(0, 0, 2, 0, 0), 0);
        due.is("one", x.copy(2, 0, 0, 0, 1), Due.BEYOND);
        due.is("one to it", x.copy(0, 0, 2, 0, 1), Due.BEYOND);
        due.is("none behind it", x.copy(2, 1, 0, 0, 0), Due.BEYOND);
    }

    @Sentence("BEYOND: one has not so many")
    static void notSoMany(Due due) {
        refuses(due, "the one", Due.BEYOND, 0, 3, 1, 0, 3);
        refuses(due, "the other one", Due.BEYOND, 0, 0, 1, 1, 3);
        refuses(due, "one from the end", Due.BEYOND, 0, 5, 1, 0, 1);
        refuses(due, "one to the end", Due.BEYOND, 0, 0, 1, 3, 1);
        refuses(due, "far too many", Due.BEYOND, 0, 1, 1, 1, Due.MAX);
        refuses(due, "far too many from far", Due.BEYOND, 0, Due.MAX, 1, Due.MAX, Due.MAX);
        refuses(due, "onto itself", Due.BEYOND, 0, 0, 0, 1, 5);
    }

    @Sentence("or from, to or n is below 0.")
    static void below0(Due due) {
        refuses(due, "from -1", Due.BEYOND, 0, -1, 1, 0, 1);
        refuses(due, "to -1", Due.BEYOND, 0, 0, 1, -1, 1);
        refuses(due, "n -1", Due.BEYOND, 0, 1, 1, 1, -1);
        refuses(due, "n 0 from -1", Due.BEYOND, 0, -1, 1, 0, 0);
        refuses(due, "n 0 to -1", Due.BEYOND, 0, 0, 1, -1, 0);
        refuses(due, "far", Due.BEYOND, 0, Due.MIN, 1, Due.MIN, Due.MIN);
        refuses(due, "n far", Due.BEYOND, 0, 0, 1, 0, Due.MIN);
    }

    @Sentence("BEYOND: no such sheet (either).")
    static void noSuchSheet(Due due) {
        int[] none = {-1, 4, Due.MIN, Due.MAX};
        for (int s : none) {
            refuses(due, "from sheet " + s, Due.BEYOND, s, 0, 0, 0, 1);
            refuses(due, "to sheet " + s, Due.BEYOND, 0, 0, s, 0, 1);
        }
    }

    @Sentence("MISSING: one is.")
    static void missing(Due due) {
        refuses(due, "the one", Due.MISSING, 2, 0, 0, 0, 1);
        refuses(due, "the other one", Due.MISSING, 0, 0, 2, 0, 1);
        refuses(due, "both", Due.MISSING, 2, 0, 2, 0, 0);
    }

    @Sentence("KIND: they are not of as many bits.")
    static void otherBits(Due due) {
        refuses(due, "8 to 16", Due.KIND, 0, 0, 3, 0, 1);
        refuses(due, "16 to 8", Due.KIND, 3, 0, 0, 0, 1);
        refuses(due, "none", Due.KIND, 0, 0, 3, 0, 0);
        LongColumn x = sheets();
        x.sheet(2, 32, 5);
        due.is("16 to 32", x.copy(3, 0, 2, 0, 1), Due.KIND);
        due.is("32 to 8", x.copy(2, 0, 0, 0, 1), Due.KIND);
    }

    @Sentence({"BEYOND: no such sheet (either). MISSING: one is. KIND: they are not of as many bits. BEYOND: one has not so many",
        "in the order in which they are asked (that of its words)"})
    static void inTheirOrder(Due due) {
        refuses(due, "no such sheet ahead of MISSING", Due.BEYOND, 2, 0, 4, 0, 1);
        refuses(due, "no such sheet ahead of MISSING, the other way", Due.BEYOND, -1, 0, 2, 0, 1);
        refuses(due, "MISSING ahead of KIND", Due.MISSING, 3, 0, 2, 0, 1);
        refuses(due, "MISSING ahead of below 0", Due.MISSING, 2, -1, 0, -1, -1);
        refuses(due, "KIND ahead of below 0", Due.KIND, 0, -1, 3, -1, -1);
        refuses(due, "KIND ahead of too many", Due.KIND, 0, 0, 3, 0, 6);
    }
}
