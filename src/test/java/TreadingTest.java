/** Promises 13 to 19: PACES that are trodden, MARCHES, how they settle or go round. */
public final class TreadingTest {
    private static final Due DUE = new Due();

    public static void main(String[] args) {
        tread();
        allAtOnce();
        march();
        worst();
        right();
        settles();
        settlesLate();
        round();
        roundLate();
        better();
        DUE.end();
    }

    private static void tread() {
        LongColumn x = new LongColumn();
        DUE.is("13: no RANKS", x.tread(1), Due.NONE);
        DUE.is("13: BEYOND ahead of NONE", x.tread(0), Due.BEYOND);
        x = Due.of("free 1 every 1 drift 99;free 1 every 1");
        x.change(1, 4, -99);
        DUE.is("13: 0", x.tread(0), Due.BEYOND);
        DUE.is("13: 100", x.tread(100), Due.BEYOND);
        DUE.is("13: one", x.tread(1), 99);
        DUE.is("13: two more", x.tread(2), 203);
        DUE.is("13: round the PACE", x.rankOf(0, 5), -203);
        DUE.is("13: the other one", x.rankOf(1, 5), 203);
        DUE.is("13: 99", x.tread(99), 98);
        DUE.is("13: 102 in all", x.rankOf(0, 5), 98);
    }

    private static void allAtOnce() {
        LongColumn x = Due.of("keep 1 every 1;eye 3 every 1 part 100");
        x.change(0, 5, 40);
        x.tread(1);
        DUE.is("13: the second sees it", x.rankOf(1, 5), 40);
        DUE.is("13: the third not yet", x.rankOf(2, 5), 0);
        x.tread(1);
        DUE.is("13: the third sees it", x.rankOf(2, 5), 40);
        DUE.is("13: the last not yet", x.rankOf(3, 5), 0);
    }

    private static void march() {
        LongColumn x = Due.of("keep 1 every 1;eye 1 every 1");
        x.change(0, 5, 100);
        int[] due = {0, 50, 75, 87, 93, 96, 98, 99, 99};
        for (int n = 0; n < due.length; n++) {
            DUE.is("14: behind " + n, x.march(1, n), due[n]);
        }
        DUE.is("14: behind 200", x.march(1, 200), 99);
        DUE.is("14: nothing changes", x.rankOf(1, 5), 0);
        DUE.is("14: -1", x.march(1, -1), Due.BEYOND);
        DUE.is("14: 201", x.march(1, 201), Due.BEYOND);
        DUE.is("14: rank 2", x.march(2, 1), Due.BEYOND);
        DUE.is("14: rank -1", x.march(-1, 1), Due.BEYOND);
        LongColumn y = Due.of("free 1 every 1 drift 1");
        DUE.is("14: all of 200", y.march(0, 200), 200);
    }

    private static void worst() {
        LongColumn x = new LongColumn();
        DUE.is("15: no RANKS", x.worst(0), Due.NONE);
        DUE.is("15: BEYOND ahead of NONE", x.worst(201), Due.BEYOND);
        x = Due.of("free 1 every 1 drift 1;keep 1 every 1");
        x.change(1, 5, -7);
        DUE.is("15: either way", x.worst(0), 7);
        DUE.is("15: behind 7", x.worst(7), 7);
        DUE.is("15: behind 8", x.worst(8), 8);
        DUE.is("15: behind 200", x.worst(200), 200);
        DUE.is("15: -1", x.worst(-1), Due.BEYOND);
        DUE.is("15: nothing changes", x.rankOf(0, 5), 0);
    }

    private static void right() {
        LongColumn x = new LongColumn();
        DUE.is("16: no RANKS", x.right(0, 0), 0);
        x = Due.of("keep 3 every 1;free 1 every 1 drift 2");
        x.change(0, 5, 10);
        x.change(1, 5, -10);
        x.change(2, 5, -11);
        DUE.is("16: by 9", x.right(9, 0), 8);
        DUE.is("16: by 10", x.right(10, 0), 11);
        DUE.is("16: by 11", x.right(11, 0), 15);
        DUE.is("16: by 10 behind 6", x.right(10, 6), 3);
        DUE.is("16: by 999 behind 200", x.right(999, 200), 15);
        DUE.is("16: by -1", x.right(-1, 0), Due.BEYOND);
        DUE.is("16: by 1000", x.right(1000, 0), Due.BEYOND);
        DUE.is("16: behind -1", x.right(0, -1), Due.BEYOND);
        DUE.is("16: behind 201", x.right(0, 201), Due.BEYOND);
        DUE.is("16: all of 24", Due.of("keep 24 every 1").right(0, 0), 0xffffff);
    }

    private static void settles() {
        DUE.is("17: no RANKS", new LongColumn().settles(), 0);
        LongColumn x = Due.of("keep 1 every 1;eye 1 every 1");
        DUE.is("17: at once", x.settles(), 0);
        x.change(0, 5, 100);
        DUE.is("17: behind 7", x.settles(), 7);
        DUE.is("17: nothing changes", x.rankOf(1, 5), 0);
        x = Due.of("free 1 every 1 drift 1");
        DUE.is("17: never", x.settles(), Due.NONE);
    }

    /** An EAR with PART 1 at PACE 2000: it comes nearer by a hundredth, cut, and stops at 99. */
    private static void settlesLate() {
        LongColumn x = Due.of("ear 1 every 1 part 1");
        x.drum(0, 99, 0);
        x.rule(0, 2000);
        // by 1 in each PACE from 199 to 100, then no more
        x.change(0, 5, 199);
        DUE.is("17: 100 steps of 1", x.settles(), 100);
        // 100 steps of 1, 50 of 2, and those above
        x.change(0, 5, 299);
        DUE.is("17: 50 more of 2", x.settles(), 150);
        // 34 of 3 to 297, 49 of 2 to 199
        x.change(0, 5, 399);
        DUE.is("17: 33 more", x.settles(), 183);
        x.change(0, 5, 463);
        DUE.is("17: 16 more of 4", x.settles(), 199);
        DUE.is("18: from 199", x.round(0), 199);
        DUE.is("18: by 1", x.round(1), 1);
        x.change(0, 5, 467);
        DUE.is("17: 17 more of 4", x.settles(), 200);
        DUE.is("18: so late it does not go round", x.round(0), Due.NONE);
        // 18 of 4 to 398, 33 of 3 to 299
        x.change(0, 5, 470);
        DUE.is("17: 201", x.settles(), Due.NONE);
    }

    private static void round() {
        LongColumn x = new LongColumn();
        DUE.is("18: no RANKS, from", x.round(0), 0);
        DUE.is("18: no RANKS, by", x.round(1), 1);
        DUE.is("18: what -1", x.round(-1), Due.BEYOND);
        DUE.is("18: what 2", x.round(2), Due.BEYOND);
        x = Due.of("free 1 every 1 drift 50;eye 1 every 1 part 100");
        // the EYE is 0 at first, and ever behind it one PACE late
        DUE.is("18: from 0, 0, by", x.round(1), 10);
        DUE.is("18: from 0, 0", x.round(0), 1);
        x.change(1, 5, -50);
        DUE.is("18: as it goes, from", x.round(0), 0);
        DUE.is("18: as it goes, by", x.round(1), 10);
        x.change(1, 2, 0);
        DUE.is("18: the EYE is shut, from", x.round(0), 0);
        x.change(0, 4, 0);
        DUE.is("18: it settles, by", x.round(1), 1);
        x.change(0, 5, 9);
        DUE.is("18: nothing changes", x.rankOf(1, 5), -50);
    }

    private static void roundLate() {
        LongColumn x = Due.of("free 1 every 1 drift 1;told 1 every 1");
        x.rule(0, 200);
        x.rule(4, 3);
        DUE.is("18: 200 round, and one ahead", x.round(0), Due.NONE);
        x.change(1, 5, 3);
        DUE.is("18: just 200, from", x.round(0), 0);
        DUE.is("18: just 200, by", x.round(1), 200);
        x.rule(0, 199);
        DUE.is("18: 199, from", x.round(0), 0);
        x.change(1, 5, 4);
        DUE.is("18: 199 and one ahead, from", x.round(0), 1);
        DUE.is("18: 199 and one ahead, by", x.round(1), 199);
        x.rule(0, 201);
        DUE.is("18: 201", x.round(1), Due.NONE);
    }

    private static void better() {
        DUE.is("19: no RANKS", new LongColumn().better(1), 0);
        LongColumn x = Due.of("free 1 every 1 drift 50");
        // 50 .. 250 -200 .. -50 0
        DUE.is("19: 5", x.better(5), 0);
        DUE.is("19: 6", x.better(6), 1);
        DUE.is("19: 10", x.better(10), 5);
        DUE.is("19: 200", x.better(200), 100);
        DUE.is("19: 0", x.better(0), Due.BEYOND);
        DUE.is("19: 201", x.better(201), Due.BEYOND);
        DUE.is("19: nothing changes", x.rankOf(0, 5), 0);
    }
}
