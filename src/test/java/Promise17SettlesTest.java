/** Promise 17: settles. */
public final class Promise17SettlesTest {
    private static final int OUT = 5;

    public static void main(String[] args) {
        Promise.run(Promise17SettlesTest.class);
    }

    /** An EAR with PART 1 at PACE 2000: it comes nearer by a hundredth, cut, and stops at 99. */
    static LongColumn slow(int out) {
        LongColumn x = Due.of("ear 1 every 1 part 1");
        x.drum(0, 99, 0);
        x.rule(0, 2000);
        x.change(0, OUT, out);
        return x;
    }

    @Sentence({"Behind how many PACES (0 to 200, at least) IT SETTLES.",
        "IT SETTLES behind n PACES, if behind these nothing changes any more"})
    static void behindSome(Due due) {
        LongColumn x = Due.of("keep 1 every 1;eye 1 every 1");
        x.change(0, OUT, 100);
        // 50 75 87 93 96 98 99 99
        due.is("7", x.settles(), 7);
        x.change(1, OUT, 98);
        due.is("1", x.settles(), 1);
    }

    @Sentence("(0 to 200, at least)")
    static void atOnce(Due due) {
        LongColumn x = Due.of("keep 1 every 1;eye 1 every 1");
        due.is("all are right", x.settles(), 0);
        x.change(0, OUT, 1);
        // 1 by half is cut to 0
        due.is("one is out, and nothing changes", x.settles(), 0);
    }

    @Sentence("(0 to 200, at least)")
    static void noRanks(Due due) {
        LongColumn x = new LongColumn();
        due.is("nothing can change", x.settles(), 0);
        due.is("no finding", x.status(-1), 0);
    }

    @Sentence("if behind these nothing changes any more")
    static void theLastOf24IsWaitedFor(Due due) {
        LongColumn x = Due.of("keep 1 every 1;eye 23 every 1 part 100");
        x.change(0, OUT, 5);
        due.is("23", x.settles(), 23);
    }

    @Sentence("(0 to 200, at least)")
    static void just200(Due due) {
        // by 1 from 199 on: 100 PACES
        due.is("199", slow(199).settles(), 100);
        // 50 by 2 from 299 on
        due.is("299", slow(299).settles(), 150);
        // 34 by 3 to 297, 49 by 2 to 199
        due.is("399", slow(399).settles(), 183);
        // 16 by 4 to 399
        due.is("463", slow(463).settles(), 199);
        // 17 by 4 to 399
        due.is("467", slow(467).settles(), 200);
    }

    @Sentence("NONE: not behind 200.")
    static void notBehind200(Due due) {
        // 18 by 4 to 398, 33 by 3 to 299, 50 by 2 to 199, 100 by 1: 201
        due.refuses("201", Due.NONE, () -> slow(470), LongColumn::settles);
    }

    @Sentence("NONE: not behind 200.")
    static void never(Due due) {
        due.refuses("FREE", Due.NONE, () -> Due.of("keep 1 every 1;free 1 every 1 drift 1"), LongColumn::settles);
        LongColumn x = Due.of("free 2 every 1 drift 99");
        x.rule(0, 100);
        due.is("what goes round by 100 is no rest", x.settles(), Due.NONE);
    }

    @Sentence("(nothing changes)")
    static void nothingChanges(Due due) {
        LongColumn x = Due.some();
        String before = Seen.of(x);
        x.settles();
        due.holds("as it was", Seen.of(x).equals(before));
    }
}
