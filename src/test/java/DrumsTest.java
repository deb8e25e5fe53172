/** Promises 20 to 24: where DRUMS had best stand, two that hear each other, who is OPPOSITE. */
public final class DrumsTest {
    private static final Due DUE = new Due();

    public static void main(String[] args) {
        place();
        both();
        two();
        opposite();
        edges();
        DUE.end();
    }

    private static void place() {
        LongColumn x = new LongColumn();
        DUE.is("20: no DRUM", x.place(0, 0), Due.BEYOND);
        x.drum(4999, 99, 0);
        DUE.is("20: no RANKS", x.place(0, 0), Due.NONE);
        DUE.is("20: BEYOND ahead of NONE", x.place(0, 51), Due.BEYOND);
        Due.column(x, "ear 5 every 55 part 100");
        // LAG is 50 for each RANK between: 200 at an end, 100 in the middle
        DUE.is("20: in the middle", x.place(0, 1), 2);
        DUE.is("20: none trodden, the least", x.place(0, 0), 0);
        DUE.is("20: it stays", x.drumOf(0, 0), 4999);
        DUE.is("20: nothing is trodden", x.rankOf(4, 5), 0);
        x.rule(2, 200);
        DUE.is("20: behind 50", x.place(0, 50), 2);
        DUE.is("20: 51", x.place(0, 51), Due.BEYOND);
        DUE.is("20: -1", x.place(0, -1), Due.BEYOND);
        DUE.is("20: drum 1", x.place(1, 0), Due.BEYOND);
        DUE.is("20: drum -1", x.place(-1, 0), Due.BEYOND);
        x = Due.of("ear 5 every 55 part 100");
        x.drum(0, 99, 0);
        x.rule(0, 100);
        // two RANKS are one PACE: from everywhere somebody is half a PACE off
        DUE.is("20: by a new PACE", x.place(0, 1), 0);
        x = Due.of("ear 5 every 55 part 50");
        x.drum(0, 99, 0);
        DUE.is("20: each from the start", x.place(0, 1), 2);
        LongColumn y = Due.of("ear 4 every 55 part 100");
        y.drum(0, 99, 0);
        DUE.is("20: the least of two", y.place(0, 1), 1);
    }

    private static void both() {
        LongColumn x = new LongColumn();
        x.drum(0, 99, 0);
        DUE.is("21: one DRUM", x.both(0, 1, 0), Due.BEYOND);
        x.drum(4999, 99, 0);
        DUE.is("21: no RANKS", x.both(0, 1, 0), Due.NONE);
        DUE.is("21: BEYOND ahead of NONE", x.both(0, 0, 0), Due.BEYOND);
        Due.column(x, "ear 6 every 55 part 100");
        // with a DRUM at 1 and at 4 each one is 50 at most; no other two do as well
        DUE.is("21: each amid its half", x.both(0, 1, 1), 104);
        DUE.is("21: the other way", x.both(1, 0, 1), 104);
        DUE.is("21: none trodden", x.both(0, 1, 0), 0);
        DUE.is("21: the one stays", x.drumOf(0, 0), 0);
        DUE.is("21: the other one stays", x.drumOf(1, 0), 4999);
        DUE.is("21: behind 9", x.both(0, 1, 9), 104);
        DUE.is("21: 10", x.both(0, 1, 10), Due.BEYOND);
        DUE.is("21: -1", x.both(0, 1, -1), Due.BEYOND);
        DUE.is("21: the same", x.both(1, 1, 1), Due.BEYOND);
        DUE.is("21: drum 2", x.both(0, 2, 1), Due.BEYOND);
        DUE.is("21: drum -1", x.both(-1, 0, 1), Due.BEYOND);
        x = Due.of("ear 6 every 55 part 100");
        x.drum(0, 99, 0);
        x.drum(0, 99, 0);
        x.rule(0, 100);
        DUE.is("21: by a new PACE", x.both(0, 1, 1), 0);
        LongColumn y = Due.of("ear 1 every 1;keep 1 every 55");
        y.drum(10, 99, 0);
        y.drum(20, 99, 0);
        DUE.is("21: also the same place", y.both(0, 1, 1), 0);
    }

    private static void two() {
        LongColumn x = new LongColumn();
        x.drum(0, 5, 0);
        x.drum(55, 5, 0);
        // the one: 0 less 50 by 2; the other one: 0 less (50 and 25) by 2
        DUE.is("22: the one", x.two(0, 1, 1, 0), -25);
        DUE.is("22: the other one", x.two(0, 1, 1, 1), -37);
        // the one: -25 less (-25 and 50 and 37) by 2; the other: -37 less (-37 and 50 and 56) by 2
        DUE.is("22: the one, behind 2", x.two(0, 1, 2, 0), -56);
        DUE.is("22: the other one, behind 2", x.two(0, 1, 2, 1), -71);
        DUE.is("22: nothing changes", x.drumOf(0, 2), 0);
        DUE.is("22: the other one ahead", x.two(1, 0, 1, 0), -25);
        DUE.is("22: n 0", x.two(0, 1, 0, 0), Due.BEYOND);
        DUE.holds("22: n 99", x.two(0, 1, 99, 0) > Due.BEYOND);
        DUE.is("22: n 100", x.two(0, 1, 100, 0), Due.BEYOND);
        DUE.is("22: what 2", x.two(0, 1, 1, 2), Due.BEYOND);
        DUE.is("22: what -1", x.two(0, 1, 1, -1), Due.BEYOND);
        DUE.is("22: the same", x.two(0, 0, 1, 0), Due.BEYOND);
        DUE.is("22: drum 2", x.two(2, 0, 1, 0), Due.BEYOND);
        DUE.is("22: drum -1", x.two(0, -1, 1, 0), Due.BEYOND);
        x.rule(2, 200);
        // LAG 55000 by 900 to the one, 55000 by 1300 to the other one
        DUE.is("22: against WIND", x.two(0, 1, 1, 0), -30);
        DUE.is("22: with WIND", x.two(0, 1, 1, 1), -36);
        LongColumn y = new LongColumn();
        y.drum(7, 5, 251);
        y.drum(7, 5, 0);
        // 251 is -249: its half, cut, is -124
        DUE.is("22: WRAPPED, and not the AHEAD", y.two(0, 1, 1, 0), 375);
        DUE.is("22: the other one then", y.two(0, 1, 1, 1), -62);
    }

    private static void opposite() {
        LongColumn x = Due.of("ear 1 every 1;ear 1 every 137;ear 1 every 1;ear 4 every 137");
        DUE.is("23: no DRUM", x.opposite(0), Due.NONE);
        x.drum(0, 99, 77);
        // places 0, 137, 138: LAG 0, 124, 125 of 500
        DUE.is("23: at the DRUM", x.opposite(0), 0);
        DUE.is("23: 124", x.opposite(1), 0);
        DUE.is("23: 125", x.opposite(2), 1);
        // 275, 412, 549: LAG 250, 374, 499
        DUE.is("23: 250", x.opposite(3), 1);
        DUE.is("23: 374 is -126", x.opposite(4), 1);
        DUE.is("23: 499 is -1", x.opposite(5), 0);
        DUE.is("23: rank 7", x.opposite(7), Due.BEYOND);
        DUE.is("23: rank -1", x.opposite(-1), Due.BEYOND);
    }

    private static void edges() {
        LongColumn x = Due.of("ear 1 every 1;ear 1 every 110");
        DUE.is("24: no DRUM", x.edges(1, 100, 200, 0), Due.NONE);
        x.drum(0, 99, 0);
        // LAG 100: not at PACE 100 (0), 101 (-1) .. 133 (-33 * 4 = 132); at 134 (-34 * 4 = 136) .. 400
        DUE.is("24: the least", x.edges(1, 100, 2000, 1), 134);
        DUE.is("24: how many", x.edges(1, 100, 2000, 0), 267);
        DUE.is("24: none below", x.edges(1, 100, 133, 0), 0);
        DUE.is("24: no least below", x.edges(1, 100, 133, 1), Due.NONE);
        DUE.is("24: one", x.edges(1, 400, 400, 0), 1);
        DUE.is("24: none above", x.edges(1, 401, 401, 0), 0);
        DUE.is("24: never at the DRUM", x.edges(0, 100, 2000, 1), Due.NONE);
        DUE.is("24: low 99", x.edges(1, 99, 200, 0), Due.BEYOND);
        DUE.is("24: high 2001", x.edges(1, 100, 2001, 0), Due.BEYOND);
        DUE.is("24: high below low", x.edges(1, 200, 199, 0), Due.BEYOND);
        DUE.is("24: what 2", x.edges(1, 100, 200, 2), Due.BEYOND);
        DUE.is("24: what -1", x.edges(1, 100, 200, -1), Due.BEYOND);
        DUE.is("24: rank 2", x.edges(2, 100, 200, 0), Due.BEYOND);
        DUE.is("24: PACE stays", x.rule(0, 500), 500);
    }
}
