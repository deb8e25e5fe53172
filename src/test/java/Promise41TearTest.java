/** Promise 41: tear. */
public final class Promise41TearTest {
    public static void main(String[] args) {
        Promise.run(Promise41TearTest.class);
    }

    @Sentence("Nothing is kept: 1 if something was, else 0.")
    static void nothingWas(Due due) {
        LongColumn x = new LongColumn();
        due.is("at first", x.tear(), 0);
        due.is("again", x.tear(), 0);
        due.is("no finding", x.status(-1), 0);
    }

    @Sentence("1 if something was")
    static void somethingWas(Due due) {
        LongColumn x = Due.of("keep 1 every 1");
        x.image();
        due.is("one", x.tear(), 1);
        due.is("no more", x.tear(), 0);
        x.image();
        x.image();
        due.is("two are one", x.tear(), 1);
        due.is("no more again", x.tear(), 0);
        x.image();
        x.undo();
        due.is("undo leaves it", x.tear(), 1);
    }

    @Sentence("1 if something was")
    static void anEmptyOneWas(Due due) {
        LongColumn x = new LongColumn();
        x.image();
        due.is("without RANKS", x.tear(), 1);
    }

    @Sentence("Nothing is kept")
    static void undoHasNothing(Due due) {
        LongColumn x = Due.of("keep 1 every 1");
        x.image();
        x.tear();
        due.is("undo", x.undo(), Due.NONE);
        x.change(0, 5, 7);
        x.image();
        x.change(0, 5, 8);
        due.is("what is kept anew", x.undo(), 1);
        due.outs("what is kept anew", x, 7);
    }

    @Sentence("Nothing is kept")
    static void allElseStays(Due due) {
        LongColumn x = Due.some();
        x.image();
        x.change(0, 5, 99);
        String before = Seen.of(x);
        x.tear();
        due.holds("as it was", Seen.of(x).equals(before));
    }
}
