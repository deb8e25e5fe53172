/** Promise 34: sheet. */
public final class Promise34SheetTest {
    public static void main(String[] args) {
        Promise.run(Promise34SheetTest.class);
    }

    /** A column with a sheet of three numbers that are not 0. */
    private static LongColumn written() {
        LongColumn x = Due.of("keep 4 every 1");
        x.sheet(0, 16, 3);
        for (int i = 0; i < 3; i++) {
            x.write(0, i, 5 + i);
        }
        return x;
    }

    @Sentence("A sheet has n numbers, all 0, of 8, 16 or 32 bits")
    static void all0(Due due) {
        int[] bits = {8, 16, 32};
        for (int b : bits) {
            LongColumn x = written();
            due.is("n", x.sheet(0, b, 3), 3);
            for (int rank = 0; rank < 4; rank++) {
                x.change(rank, 5, 99);
            }
            due.is("three come", x.load(0), 3);
            due.outs("of " + b + " bits", x, 0, 0, 0, 99);
        }
    }

    @Sentence("all 0")
    static void all0WhereItIsLonger(Due due) {
        LongColumn x = written();
        x.sheet(0, 16, 0);
        x.sheet(0, 16, 4);
        x.load(0);
        due.outs("nothing of before", x, 0, 0, 0, 0);
    }

    @Sentence({"of 8, 16 or 32 bits", "numbers of 8, 16 or 32 bits (told with their sign: of 8 bits 255 is -1)"})
    static void ofSoManyBits(Due due) {
        int[] bits = {8, 16, 32};
        int[] told = {-1, 255, 255};
        for (int i = 0; i < bits.length; i++) {
            LongColumn x = Due.of("keep 1 every 1");
            x.rule(0, 2000);
            x.sheet(0, bits[i], 1);
            x.write(0, 0, 255);
            x.load(0);
            due.outs("255 of " + bits[i], x, told[i]);
        }
    }

    @Sentence("rows of at most 40 numbers")
    static void nAtItsEnds(Due due) {
        LongColumn x = new LongColumn();
        due.is("40", x.sheet(0, 8, 40), 40);
        due.is("the last number", x.write(0, 39, 1), 1);
        due.is("no other one", x.write(0, 40, 1), Due.BEYOND);
        due.is("0", x.sheet(0, 8, 0), 0);
        due.is("it has none", x.write(0, 0, 1), Due.BEYOND);
        due.is("it is not MISSING", x.load(0), 0);
    }

    @Sentence("bits 0: it is MISSING: n (0 if it is MISSING).")
    static void bits0(Due due) {
        int[] many = {0, 3, 40};
        for (int n : many) {
            LongColumn x = written();
            due.is("n " + n, x.sheet(0, 0, n), 0);
            due.is("it is MISSING", x.load(0), Due.MISSING);
            due.is("once more", x.sheet(0, 0, n), 0);
            due.is("it comes anew", x.sheet(0, 8, 2), 2);
        }
    }

    @Sentence("SHEETS 0 to 3")
    static void eachIsItsOwn(Due due) {
        LongColumn x = Due.of("keep 1 every 1");
        for (int s = 0; s <= 3; s++) {
            due.is("n of " + s, x.sheet(s, 8, s + 1), s + 1);
            x.write(s, 0, 10 + s);
        }
        x.sheet(2, 0, 0);
        int[] came = {1, 1, Due.MISSING, 1};
        int[] out = {10, 11, 11, 13};
        for (int s = 0; s <= 3; s++) {
            due.is("load " + s, x.load(s), came[s]);
            due.outs("sheet " + s, x, out[s]);
        }
    }

    @Sentence("BEYOND: no such sheet, other bits.")
    static void noSuchSheet(Due due) {
        int[] none = {-1, 4, Due.MIN, Due.MAX};
        for (int s : none) {
            due.refuses("sheet " + s, Due.BEYOND, Due::some, x -> x.sheet(s, 8, 1));
            due.refuses("sheet " + s + ", bits 0", Due.BEYOND, Due::some, x -> x.sheet(s, 0, 0));
        }
    }

    @Sentence("BEYOND: no such sheet, other bits.")
    static void otherBits(Due due) {
        int[] other = {-8, -1, 1, 7, 9, 15, 17, 24, 31, 33, 64, Due.MIN, Due.MAX};
        for (int bits : other) {
            due.refuses("bits " + bits, Due.BEYOND, Promise34SheetTest::written, x -> x.sheet(0, bits, 1));
        }
    }

    @Sentence("SIZE: n is below 0 (also with bits 0).")
    static void nBelow0(Due due) {
        due.refuses("-1", Due.SIZE, Promise34SheetTest::written, x -> x.sheet(0, 8, -1));
        due.refuses("far", Due.SIZE, Promise34SheetTest::written, x -> x.sheet(0, 32, Due.MIN));
        due.refuses("-1, bits 0", Due.SIZE, Promise34SheetTest::written, x -> x.sheet(0, 0, -1));
        due.refuses("far, bits 0", Due.SIZE, Promise34SheetTest::written, x -> x.sheet(0, 0, Due.MIN));
    }

    @Sentence("BEYOND: n is above 40 (also with bits 0).")
    static void nAbove40(Due due) {
        due.refuses("41", Due.BEYOND, Promise34SheetTest::written, x -> x.sheet(0, 8, 41));
        due.refuses("far", Due.BEYOND, Promise34SheetTest::written, x -> x.sheet(0, 32, Due.MAX));
        due.refuses("41, bits 0", Due.BEYOND, Promise34SheetTest::written, x -> x.sheet(0, 0, 41));
        due.refuses("far, bits 0", Due.BEYOND, Promise34SheetTest::written, x -> x.sheet(0, 0, Due.MAX));
    }

    @Sentence({"BEYOND: no such sheet, other bits. SIZE: n is below 0", "in the order in which they are asked (that of its words)"})
    static void beyondAheadOfSize(Due due) {
        due.refuses("no such sheet", Due.BEYOND, Promise34SheetTest::written, x -> x.sheet(4, 8, -1));
        due.refuses("other bits", Due.BEYOND, Promise34SheetTest::written, x -> x.sheet(0, 1, -1));
    }
}
