/** Promise 37: load. */
public final class Promise37LoadTest {
    public static void main(String[] args) {
        Promise.run(Promise37LoadTest.class);
    }

    private static LongColumn with(String text, int... numbers) {
        LongColumn x = Due.of(text);
        x.sheet(0, 32, numbers.length);
        for (int i = 0; i < numbers.length; i++) {
            x.write(0, i, numbers[i]);
        }
        return x;
    }

    @Sentence("Numbers of a sheet become OUT of RANKS from RANK 0 on, WRAPPED")
    static void becomeOut(Due due) {
        LongColumn x = with("keep 3 every 1", 5, -6, 7);
        due.is("three", x.load(0), 3);
        due.outs("each", x, 5, -6, 7);
    }

    @Sentence("OUT of RANKS from RANK 0 on, WRAPPED")
    static void goesRound(Due due) {
        LongColumn x = with("keep 6 every 1", 250, 251, -249, -250, Due.MAX, Due.MIN);
        due.is("six", x.load(0), 6);
        due.outs("WRAPPED", x, 250, -249, -249, 250, 147, -148);
        x.rule(0, 100);
        x.load(0);
        due.outs("by another PACE", x, 50, -49, -49, 50, 47, -48);
    }

    @Sentence("(numbers for which there is no RANK are left out): how many came.")
    static void moreNumbers(Due due) {
        LongColumn x = with("keep 2 every 1", 5, 6, 7);
        due.is("two of three", x.load(0), 2);
        due.outs("two", x, 5, 6);
        Due.column(x, "keep 1 every 1");
        due.outs("the third was left out", x, 5, 6, 0);
    }

    @Sentence("(numbers for which there is no RANK are left out): how many came.")
    static void noRanks(Due due) {
        LongColumn x = new LongColumn();
        x.sheet(0, 8, 3);
        due.is("none of three", x.load(0), 0);
        due.is("no finding", x.status(-1), 0);
    }

    @Sentence("how many came.")
    static void moreRanks(Due due) {
        LongColumn x = with("keep 3 every 1", 5);
        x.change(1, 5, 77);
        x.change(2, 5, 78);
        due.is("one of one", x.load(0), 1);
        due.outs("the others stay", x, 5, 77, 78);
    }

    @Sentence("how many came.")
    static void noNumbers(Due due) {
        LongColumn x = with("keep 2 every 1");
        x.change(0, 5, 77);
        due.is("none", x.load(0), 0);
        due.outs("all stay", x, 77, 0);
    }

    @Sentence("Numbers of a sheet become OUT of RANKS")
    static void allOf24(Due due) {
        LongColumn x = Due.of("keep 24 every 1");
        x.sheet(3, 8, 40);
        for (int i = 0; i < 40; i++) {
            x.write(3, i, i + 1);
        }
        due.is("24 of 40", x.load(3), 24);
        due.is("the first", x.rankOf(0, 5), 1);
        due.is("the last", x.rankOf(23, 5), 24);
    }

    @Sentence("Numbers of a sheet become OUT")
    static void theSheetStays(Due due) {
        LongColumn x = with("keep 1 every 1", 251);
        x.load(0);
        x.rule(0, 2000);
        x.load(0);
        due.outs("251, as it was written", x, 251);
    }

    @Sentence("BEYOND: no such sheet.")
    static void noSuchSheet(Due due) {
        int[] none = {-1, 4, Due.MIN, Due.MAX};
        for (int s : none) {
            due.refuses("sheet " + s, Due.BEYOND, Due::some, x -> x.load(s));
        }
    }

    @Sentence("MISSING.")
    static void missing(Due due) {
        due.refuses("it never was", Due.MISSING, Due::some, x -> x.load(3));
        due.refuses("without RANKS", Due.MISSING, LongColumn::new, x -> x.load(0));
        LongColumn x = with("keep 1 every 1", 9);
        x.sheet(0, 0, 0);
        due.is("it is no more", x.load(0), Due.MISSING);
        due.outs("nothing came", x, 0);
    }
}
