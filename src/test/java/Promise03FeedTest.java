/** Promise 3: feed. */
public final class Promise03FeedTest {
    public static void main(String[] args) {
        Promise.run(Promise03FeedTest.class);
    }

    /** An object with so many bytes on THE TAPE. */
    private static LongColumn with(int bytes) {
        LongColumn x = new LongColumn();
        Due.feed(x, " ".repeat(bytes));
        return x;
    }

    @Sentence("THE TAPE gets the n lowest bytes of a number behind it, the highest of these first (n 1 to 4): "
            + "how many it has.")
    static void theHighestComesFirst(Due due) {
        LongColumn x = new LongColumn();
        due.is("four", x.feed(0x65617231, 4), 4);
        due.is("three", x.feed(0x657665, 3), 7);
        due.is("two", x.feed(0x7279, 2), 9);
        due.is("one", x.feed(0x31, 1), 10);
        due.is("ear1every1", x.column(), 1);
    }

    @Sentence("the n lowest bytes of a number")
    static void higherBytesAreLeftOut(Due due) {
        LongColumn x = new LongColumn();
        due.is("three of four", x.feed(0x41656172, 3), 3);
        due.is("one of four", x.feed(0x41424331, 1), 4);
        due.is("two of four", x.feed(0xffff6576, 2), 6);
        due.is("one below 0", x.feed(0xffffff65, 1), 7);
        due.is("two more", x.feed(0x80007279, 2), 9);
        due.is("the last", x.feed(0x80000031, 1), 10);
        due.is("ear1every1", x.column(), 1);
    }

    @Sentence("the n lowest bytes of a number")
    static void bytesAbove127(Due due) {
        LongColumn x = new LongColumn();
        due.is("four", x.feed(-1, 4), 4);
        due.is("255 begins no TOKEN", x.column(), -1);
        x.feed(0x202020e5, 4);
        due.is("nor does 229, behind three blanks", x.column(), -4);
        x.feed(0x80202020, 4);
        due.is("nor does 128, ahead of them", x.column(), -1);
    }

    @Sentence("BEYOND: n.")
    static void nTooSmall(Due due) {
        due.refuses("0", Due.BEYOND, Due::some, x -> x.feed(65, 0));
        due.refuses("-1", Due.BEYOND, Due::some, x -> x.feed(65, -1));
        due.refuses("far", Due.BEYOND, Due::some, x -> x.feed(65, Due.MIN));
    }

    @Sentence("BEYOND: n.")
    static void nTooLarge(Due due) {
        due.refuses("5", Due.BEYOND, Due::some, x -> x.feed(65, 5));
        due.refuses("far", Due.BEYOND, Due::some, x -> x.feed(65, Due.MAX));
    }

    @Sentence({"A TEXT is read from THE TAPE (bytes, at most 120).", "FULL."})
    static void justFull(Due due) {
        for (int n = 1; n <= 4; n++) {
            due.is("the last " + n, with(120 - n).feed(0, n), 120);
        }
    }

    @Sentence({"THE TAPE (bytes, at most 120)", "FULL."})
    static void oneTooMany(Due due) {
        for (int n = 1; n <= 4; n++) {
            int bytes = n;
            due.refuses(n + " where one less has room", Due.FULL, () -> with(121 - bytes), x -> x.feed(0, bytes));
        }
    }

    @Sentence({"THE TAPE (bytes, at most 120)", "FULL."})
    static void noRoomAtAll(Due due) {
        for (int n = 1; n <= 4; n++) {
            int bytes = n;
            due.refuses(n + " where none has room", Due.FULL, () -> with(120), x -> x.feed(0, bytes));
        }
    }

    @Sentence("Each act tells its findings in the order in which they are asked (that of its words)")
    static void beyondAheadOfFull(Due due) {
        due.refuses("5", Due.BEYOND, () -> with(120), x -> x.feed(0, 5));
        due.refuses("0", Due.BEYOND, () -> with(120), x -> x.feed(0, 0));
    }

    @Sentence("one that answers a finding changes nothing but status().")
    static void whatIsThereStaysWhenRefused(Due due) {
        LongColumn x = new LongColumn();
        Due.feed(x, "ear1every1" + " ".repeat(108));
        x.feed(0x41414141, 4);
        x.feed(0x41414141, 3);
        x.feed(0x41414141, 0);
        due.is("118", x.count(3), 118);
        due.is("no A came", x.column(), 1);
    }

    @Sentence("how many it has.")
    static void fromNothingAgain(Due due) {
        LongColumn x = with(120);
        x.wipe();
        due.is("behind wipe", x.feed(0, 2), 2);
        x.column();
        due.is("behind column", x.feed(0, 3), 3);
    }
}
