/** Promise 35: write. */
public final class Promise35WriteTest {
    public static void main(String[] args) {
        Promise.run(Promise35WriteTest.class);
    }

    /** What OUT becomes by a number of a sheet of so many bits, at PACE 2000. */
    private static int told(int bits, int v) {
        LongColumn x = Due.of("keep 1 every 1");
        x.rule(0, 2000);
        x.sheet(3, bits, 1);
        x.write(3, 0, v);
        x.load(3);
        return x.rankOf(0, 5);
    }

    private static LongColumn written() {
        LongColumn x = Due.of("keep 4 every 1");
        x.sheet(0, 16, 3);
        x.write(0, 2, 7);
        return x;
    }

    @Sentence("Number i of a sheet becomes v (its lowest bits): 1.")
    static void numberI(Due due) {
        LongColumn x = written();
        due.is("the first", x.write(0, 0, 5), 1);
        due.is("the next", x.write(0, 1, 6), 1);
        x.load(0);
        due.outs("each", x, 5, 6, 7, 0);
        due.is("the last anew", x.write(0, 2, -8), 1);
        x.load(0);
        due.outs("each", x, 5, 6, -8, 0);
    }

    @Sentence({"(its lowest bits)", "of 8 bits 255 is -1"})
    static void of8Bits(Due due) {
        int[] v = {127, 128, 255, 256, 257, -1, -128, -129, 0x1280, Due.MAX, Due.MIN};
        int[] told = {127, -128, -1, 0, 1, -1, -128, 127, -128, -1, 0};
        for (int i = 0; i < v.length; i++) {
            due.is("" + v[i], told(8, v[i]), told[i]);
        }
    }

    @Sentence({"(its lowest bits)", "(told with their sign"})
    static void of16Bits(Due due) {
        // 32767 is 767 by 16 PACES of 2000, -32768 is -768
        int[] v = {255, 32767, 32768, 65535, 65536, -32768, -32769, 0x7ffff, Due.MAX, Due.MIN};
        int[] told = {255, 767, -768, -1, 0, -768, 767, -1, -1, 0};
        for (int i = 0; i < v.length; i++) {
            due.is("" + v[i], told(16, v[i]), told[i]);
        }
    }

    @Sentence({"(its lowest bits)", "(told with their sign"})
    static void of32Bits(Due due) {
        // 65535 is -465 by 33 PACES, 65536 is -464
        int[] v = {255, 65535, 65536, -1, Due.MAX, Due.MIN};
        int[] told = {255, -465, -464, -1, -353, 352};
        for (int i = 0; i < v.length; i++) {
            due.is("" + v[i], told(32, v[i]), told[i]);
        }
    }

    @Sentence("BEYOND: no such sheet.")
    static void noSuchSheet(Due due) {
        int[] none = {-1, 4, Due.MIN, Due.MAX};
        for (int s : none) {
            due.refuses("sheet " + s, Due.BEYOND, Promise35WriteTest::written, x -> x.write(s, 0, 1));
        }
    }

    @Sentence("MISSING.")
    static void missing(Due due) {
        due.refuses("it never was", Due.MISSING, Promise35WriteTest::written, x -> x.write(1, 0, 1));
        due.refuses("it is no more", Due.MISSING, Promise35WriteTest::taken, x -> x.write(0, 0, 1));
    }

    private static LongColumn taken() {
        LongColumn x = written();
        x.sheet(0, 0, 3);
        return x;
    }

    @Sentence("BEYOND: no such number.")
    static void noSuchNumber(Due due) {
        int[] none = {-1, 3, 40, Due.MIN, Due.MAX};
        for (int i : none) {
            due.refuses("number " + i, Due.BEYOND, Promise35WriteTest::written, x -> x.write(0, i, 1));
        }
    }

    @Sentence("BEYOND: no such number.")
    static void noNumberAtAll(Due due) {
        LongColumn x = new LongColumn();
        x.sheet(0, 8, 0);
        due.is("0 of none", x.write(0, 0, 1), Due.BEYOND);
        x.sheet(0, 8, 40);
        due.is("40 of 40", x.write(0, 40, 1), Due.BEYOND);
        due.is("39 of 40", x.write(0, 39, 1), 1);
    }

    @Sentence({"BEYOND: no such sheet. MISSING. BEYOND: no such number.", "in the order in which they are asked (that of its words)"})
    static void missingAheadOfNoSuchNumber(Due due) {
        due.refuses("-1 of MISSING", Due.MISSING, Promise35WriteTest::written, x -> x.write(1, -1, 1));
        due.refuses("41 of MISSING", Due.MISSING, Promise35WriteTest::written, x -> x.write(3, 41, 1));
        due.refuses("-1 of no such sheet", Due.BEYOND, Promise35WriteTest::written, x -> x.write(4, -1, 1));
    }
}
