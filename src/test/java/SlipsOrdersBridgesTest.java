/** Promises 25 to 29: slips, orders that are passed on, bridges. */
public final class SlipsOrdersBridgesTest {
    private static final Due DUE = new Due();

    public static void main(String[] args) {
        slip();
        slipEnds();
        begin();
        apart();
        bridge();
        broken();
        DUE.end();
    }

    private static void slip() {
        LongColumn x = Due.of("keep 1 every 1;eye 2 every 1 part 50;free 1 every 1 drift 9");
        // RANK 1 differs by 40, 20, 10; RANK 2 by 0, 20, 20
        int[] many = {1, 2, 2};
        int[] greatest = {40, 20, 20};
        for (int n = 0; n <= 2; n++) {
            DUE.is("25: how many behind " + n, x.slip(1, 40, n, 0), many[n]);
            DUE.is("25: greatest behind " + n, x.slip(1, 40, n, 1), greatest[n]);
            DUE.is("25: either way behind " + n, x.slip(1, -40, n, 1), greatest[n]);
        }
        DUE.is("25: WRAPPED", x.slip(1, 300, 0, 1), 200);
        DUE.is("25: a whole PACE", x.slip(1, 500, 0, 0), 0);
        DUE.is("25: a whole PACE, behind", x.slip(1, -500, 0, 2), 0);
        DUE.is("25: nothing", x.slip(1, 0, 99, 1), 0);
        DUE.is("25: it is not forgotten", x.slip(0, 40, 99, 2), Due.NONE);
        x.change(1, 5, -240);
        DUE.is("25: difference, WRAPPED", x.slip(1, -20, 0, 1), 20);
        DUE.is("25: nothing changes", x.rankOf(1, 5), -240);
        DUE.is("25: rank 4", x.slip(4, 0, 0, 0), Due.BEYOND);
        DUE.is("25: rank -1", x.slip(-1, 0, 0, 0), Due.BEYOND);
        DUE.is("25: v 1000", x.slip(0, 1000, 0, 0), Due.BEYOND);
        DUE.is("25: v -1000", x.slip(0, -1000, 0, 0), Due.BEYOND);
        DUE.is("25: n -1", x.slip(0, 0, -1, 0), Due.BEYOND);
        DUE.is("25: n 100", x.slip(0, 0, 100, 0), Due.BEYOND);
        DUE.is("25: what -1", x.slip(0, 0, 0, -1), Due.BEYOND);
        DUE.is("25: what 3", x.slip(0, 0, 0, 3), Due.BEYOND);
        DUE.is("25: the edges", x.slip(0, 999, 99, 1), 1);
        DUE.is("25: the other edges", x.slip(0, -999, 0, 1), 1);
        DUE.is("25: RANK 0", x.slip(0, 7, 0, 1), 7);
        x.change(1, 5, 0);
        x.change(2, 5, 1);
        // 4 comes to 2, -2 to -1, and 1 stays
        DUE.is("25: by so much more", x.slip(2, 3, 1, 1), 1);
        DUE.is("25: by so much less", x.slip(2, -3, 1, 1), 2);
    }

    private static void slipEnds() {
        LongColumn x = Due.of("keep 1 every 1;eye 3 every 1 part 100");
        // each one passes it on and forgets it
        DUE.is("25: gone behind 3", x.slip(1, 7, 99, 2), 3);
        LongColumn y = Due.of("keep 1 every 1;eye 1 every 1 part 100;free 1 every 1 drift 9");
        DUE.is("25: others go on alike", y.slip(1, 7, 99, 2), 1);
        DUE.is("25: gone just in 3", x.slip(1, 7, 3, 2), 3);
        DUE.is("25: not in 2", x.slip(1, 7, 2, 2), Due.NONE);
        DUE.is("25: the last one", x.slip(3, 7, 99, 2), 1);
        DUE.is("25: how many on the way", x.slip(1, 7, 2, 0), 1);
        DUE.is("25: no one in the end", x.slip(1, 7, 3, 0), 0);
    }

    private static void begin() {
        LongColumn x = new LongColumn();
        DUE.is("26: no RANKS", x.begin(0, 0), Due.BEYOND);
        x = Due.of("keep 4 every 55");
        int[] mouth = {0, 150, 300, 450};
        int[] hand = {0, 20, 40, 60};
        for (int rank = 0; rank < 4; rank++) {
            DUE.is("26: mouth " + rank, x.begin(0, rank), mouth[rank]);
            DUE.is("26: drum " + rank, x.begin(1, rank), Due.NONE);
            DUE.is("26: hand " + rank, x.begin(2, rank), hand[rank]);
        }
        x.bend(55);
        int[] round = {0, 20, 170, 190};
        for (int rank = 0; rank < 4; rank++) {
            DUE.is("26: hand and mouth " + rank, x.begin(2, rank), round[rank]);
        }
        x.drum(110, 3, 70);
        // LAG 100, 50, 0, 50, each less 70
        int[] drum = {30, -20, -70, -20};
        for (int rank = 0; rank < 4; rank++) {
            DUE.is("26: by drum " + rank, x.begin(1, rank), drum[rank]);
        }
        x.rule(5, 999);
        x.rule(6, 0);
        x.rule(2, 200);
        // LAG forth 55000 by 1300, back 55000 by 900
        DUE.is("26: WORD and WIND", x.begin(0, 1), 1041);
        DUE.is("26: HAND 0", x.begin(2, 1), 0);
        DUE.is("26: drum against WIND", x.begin(1, 1), -9);
        DUE.is("26: way -1", x.begin(-1, 0), Due.BEYOND);
        DUE.is("26: way 3", x.begin(3, 0), Due.BEYOND);
        DUE.is("26: rank 4", x.begin(0, 4), Due.BEYOND);
        DUE.is("26: rank -1", x.begin(0, -1), Due.BEYOND);
    }

    private static void apart() {
        LongColumn x = new LongColumn();
        for (int way = 0; way <= 2; way++) {
            DUE.is("27: nobody", x.apart(way), Due.NONE);
        }
        DUE.is("27: way -1", x.apart(-1), Due.BEYOND);
        DUE.is("27: way 3", x.apart(3), Due.BEYOND);
        x = Due.of("keep 4 every 55");
        DUE.is("27: mouth", x.apart(0), 450);
        DUE.is("27: no DRUM", x.apart(1), Due.NONE);
        DUE.is("27: hand", x.apart(2), 60);
        x.drum(110, 2, 999);
        // heard at 55, 110, 165 (LOUD 2 less 1), not at 0 (LOUD 2 less 2)
        DUE.is("27: some hear it", x.apart(1), 50);
        x.carry(0, 165);
        DUE.is("27: two hear it", x.apart(1), 50);
        x.carry(0, 4999);
        DUE.is("27: nobody hears it", x.apart(1), Due.NONE);
        DUE.is("27: one alone", Due.of("keep 1 every 1").apart(0), 0);
    }

    private static void bridge() {
        DUE.is("28: no RANKS", new LongColumn().bridge(0, 4999, 999, 0), 0);
        LongColumn x = Due.of("keep 5 every 10;free 1 every 10 drift 1");
        int[] out = {240, -250, -240, 0, 11, 0};
        for (int rank = 0; rank < out.length; rank++) {
            x.change(rank, 5, out[rank]);
        }
        // 240, 250, 260 (round PACE), 0, 11, 0 at 0, 10, .. 50
        DUE.is("28: within 0", x.bridge(0, 4999, 0, 0), 2);
        DUE.is("28: within 10", x.bridge(0, 30, 10, 0), 2);
        DUE.is("28: within 19", x.bridge(0, 30, 19, 0), 2);
        DUE.is("28: within 20, round PACE", x.bridge(0, 30, 20, 0), 3);
        DUE.is("28: both ends", x.bridge(0, 20, 20, 0), 3);
        DUE.is("28: one end less", x.bridge(1, 20, 20, 0), 2);
        DUE.is("28: other end less", x.bridge(0, 19, 20, 0), 2);
        DUE.is("28: nobody on it", x.bridge(51, 4999, 999, 0), 0);
        DUE.is("28: one place", x.bridge(50, 50, 0, 0), 1);
        DUE.is("28: all", x.bridge(0, 50, 499, 0), 6);
        DUE.is("28: within 10, at first", x.bridge(30, 50, 10, 0), 2);
        DUE.is("28: within 10, behind 1", x.bridge(30, 50, 10, 1), 2);
        DUE.is("28: within 11", x.bridge(30, 50, 11, 0), 3);
        DUE.is("28: behind 11", x.bridge(40, 50, 0, 11), 2);
        DUE.is("28: nothing changes", x.rankOf(5, 5), 0);
        DUE.is("28: from -1", x.bridge(-1, 0, 0, 0), Due.BEYOND);
        DUE.is("28: from 5000", x.bridge(5000, 5000, 0, 0), Due.BEYOND);
        DUE.is("28: to ahead of from", x.bridge(10, 9, 0, 0), Due.BEYOND);
        DUE.is("28: to 5000", x.bridge(0, 5000, 0, 0), Due.BEYOND);
        DUE.is("28: t -1", x.bridge(0, 0, -1, 0), Due.BEYOND);
        DUE.is("28: t 1000", x.bridge(0, 0, 1000, 0), Due.BEYOND);
        DUE.is("28: n -1", x.bridge(0, 0, 0, -1), Due.BEYOND);
        DUE.is("28: n 201", x.bridge(0, 0, 0, 201), Due.BEYOND);
        DUE.is("28: the edges", x.bridge(4999, 4999, 999, 200), 0);
        LongColumn y = Due.of("keep 3 every 10");
        y.change(0, 5, 0);
        y.change(1, 5, 167);
        y.change(2, 5, -167);
        // 167, 166 and 167 ticks lie between them
        DUE.is("28: a difference is one way round", y.bridge(0, 20, 166, 0), 2);
        DUE.is("28: not all within 332", y.bridge(0, 20, 332, 0), 2);
        DUE.is("28: all within 333", y.bridge(0, 20, 333, 0), 3);
    }

    private static void broken() {
        DUE.is("29: no RANKS", new LongColumn().broken(0, 0, 0, 0), 0);
        LongColumn x = Due.of("keep 1 every 10;free 1 every 10 drift 1");
        DUE.is("29: at once", x.broken(0, 10, 5, 2), 0);
        DUE.is("29: behind 6", x.broken(0, 10, 5, 1), 6);
        DUE.is("29: never none", x.broken(0, 10, 5, 0), Due.NONE);
        DUE.is("29: none on it", x.broken(11, 20, 5, 0), 0);
        DUE.is("29: just 200", x.broken(0, 10, 199, 1), 200);
        DUE.is("29: not in 200", x.broken(0, 10, 200, 1), Due.NONE);
        DUE.is("29: all keep", Due.of("keep 2 every 10").broken(0, 10, 0, 1), Due.NONE);
        DUE.is("29: most 24", x.broken(0, 4999, 999, 24), 0);
        DUE.is("29: most 25", x.broken(0, 4999, 999, 25), Due.BEYOND);
        DUE.is("29: most -1", x.broken(0, 4999, 999, -1), Due.BEYOND);
        DUE.is("29: from -1", x.broken(-1, 4999, 0, 0), Due.BEYOND);
        DUE.is("29: to ahead of from", x.broken(1, 0, 0, 0), Due.BEYOND);
        DUE.is("29: to 5000", x.broken(1, 5000, 0, 0), Due.BEYOND);
        DUE.is("29: t 1000", x.broken(0, 0, 1000, 0), Due.BEYOND);
        DUE.is("29: t -1", x.broken(0, 0, -1, 0), Due.BEYOND);
        DUE.is("29: nothing changes", x.rankOf(1, 5), 0);
    }
}
