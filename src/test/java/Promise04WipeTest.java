/** Promise 4: wipe. */
public final class Promise04WipeTest {
    public static void main(String[] args) {
        Promise.run(Promise04WipeTest.class);
    }

    @Sentence("THE TAPE is empty: how many it had.")
    static void itHadNone(Due due) {
        LongColumn x = new LongColumn();
        due.is("at first", x.wipe(), 0);
        due.is("again", x.wipe(), 0);
        due.is("no finding", x.status(-1), 0);
    }

    @Sentence("THE TAPE is empty: how many it had.")
    static void itHadSome(Due due) {
        LongColumn x = new LongColumn();
        x.feed(0, 3);
        due.is("three", x.wipe(), 3);
        due.is("it is empty", x.count(3), 0);
        due.is("then none", x.wipe(), 0);
    }

    @Sentence("THE TAPE is empty: how many it had.")
    static void itWasFull(Due due) {
        LongColumn x = new LongColumn();
        Due.feed(x, "x".repeat(120));
        due.is("120", x.wipe(), 120);
        due.is("it has room again", x.feed(0, 4), 4);
    }

    @Sentence("THE TAPE is empty")
    static void nothingOfItIsLeft(Due due) {
        LongColumn x = new LongColumn();
        Due.feed(x, "ear 2 every 3 part 4");
        x.wipe();
        Due.feed(x, "eye 1 every 2");
        due.is("the new TEXT alone", x.column(), 1);
        due.is("its PART", x.rankOf(0, 2), 50);
    }

    @Sentence("THE TAPE is empty")
    static void allElseStays(Due due) {
        LongColumn x = Due.some();
        String before = Seen.of(x);
        x.wipe();
        Due.feed(x, "ear");
        due.holds("as it was", Seen.of(x).equals(before));
    }
}
