/** Promise 38: judge. */
public final class Promise38JudgeTest {
    public static void main(String[] args) {
        Promise.run(Promise38JudgeTest.class);
    }

    /** A FREE one that is 99, 198, then -203 OUT, and a sheet. */
    private static LongColumn with(int bits, int... numbers) {
        LongColumn x = Due.of("free 1 every 1 drift 99");
        x.sheet(0, bits, numbers.length);
        for (int i = 0; i < numbers.length; i++) {
            x.write(0, i, numbers[i]);
        }
        return x;
    }

    @Sentence("THE READER: numbers of a sheet are WORST behind MARCHES of 1, 2, .. PACES: -1 if all are")
    static void allAre(Due due) {
        due.is("one", with(16, 99).judge(0), -1);
        due.is("three", with(16, 99, 198, 203).judge(0), -1);
    }

    @Sentence("else the first that isn't (from 0).")
    static void theFirstThatIsNot(Due due) {
        due.is("the first", with(16, 0, 198, 203).judge(0), 0);
        due.is("the second", with(16, 99, 197, 0).judge(0), 1);
        due.is("the third, WORST has no sign", with(16, 99, 198, -203).judge(0), 2);
        due.is("OUT at once is not asked", with(16, 0, 99, 198).judge(0), 0);
    }

    @Sentence("-1 if all are")
    static void noNumbers(Due due) {
        LongColumn x = with(16);
        due.is("all of none", x.judge(0), -1);
        due.is("no finding", x.status(-1), 0);
    }

    @Sentence({"numbers of a sheet", "(told with their sign: of 8 bits 255 is -1)"})
    static void of8Bits(Due due) {
        due.is("198 has no room in 8 bits", with(8, 99, 198).judge(0), 1);
        LongColumn x = Due.of("keep 1 every 1");
        x.change(0, 5, 127);
        x.sheet(0, 8, 1);
        x.write(0, 0, 127);
        due.is("127 has", x.judge(0), -1);
    }

    @Sentence({"MARCHES of 1, 2, .. PACES", "rows of at most 40 numbers"})
    static void allOf40(Due due) {
        LongColumn x = Due.of("free 1 every 1 drift 1");
        x.sheet(3, 8, 40);
        for (int i = 0; i < 40; i++) {
            x.write(3, i, i + 1);
        }
        due.is("all", x.judge(3), -1);
        x.write(3, 39, 39);
        due.is("all but the last", x.judge(3), 39);
    }

    @Sentence("numbers of a sheet are WORST")
    static void nothingChanges(Due due) {
        LongColumn x = Due.some();
        // the FREE one is worst: 60 less 7, and again
        x.write(0, 0, 53);
        x.write(0, 1, 46);
        String before = Seen.of(x);
        x.judge(0);
        due.holds("as it was", Seen.of(x).equals(before));
    }

    @Sentence("BEYOND: no such sheet.")
    static void noSuchSheet(Due due) {
        int[] none = {-1, 4, Due.MIN, Due.MAX};
        for (int s : none) {
            due.refuses("sheet " + s, Due.BEYOND, Due::some, x -> x.judge(s));
        }
    }

    @Sentence("MISSING.")
    static void missing(Due due) {
        due.refuses("it never was", Due.MISSING, Due::some, x -> x.judge(3));
        LongColumn x = with(16, 99);
        x.sheet(0, 0, 1);
        due.is("it is no more", x.judge(0), Due.MISSING);
    }

    private static LongColumn sheetAlone() {
        LongColumn x = new LongColumn();
        x.sheet(0, 16, 3);
        x.sheet(1, 16, 0);
        return x;
    }

    @Sentence("NONE: there are no RANKS.")
    static void noRanks(Due due) {
        due.refuses("three numbers", Due.NONE, Promise38JudgeTest::sheetAlone, x -> x.judge(0));
        due.refuses("no number", Due.NONE, Promise38JudgeTest::sheetAlone, x -> x.judge(1));
    }

    @Sentence({"BEYOND: no such sheet. MISSING. NONE: there are no RANKS.", "in the order in which they are asked (that of its words)"})
    static void missingAheadOfNone(Due due) {
        due.refuses("MISSING", Due.MISSING, Promise38JudgeTest::sheetAlone, x -> x.judge(2));
        due.refuses("no such sheet", Due.BEYOND, Promise38JudgeTest::sheetAlone, x -> x.judge(4));
    }
}
