/** Promises 30 to 43: draws, SPOTS, SHEETS, images, counts. */
public final class DrawsSheetsImagesTest {
    private static final Due DUE = new Due();

    public static void main(String[] args) {
        seed();
        shake();
        hold();
        as();
        sheet();
        write();
        copy();
        copyOrder();
        load();
        judge();
        image();
        imageKeepsAll();
        tear();
        count();
        status();
        DUE.end();
    }

    private static void seed() {
        LongColumn x = new LongColumn();
        DUE.is("30: at first", x.seed(Integer.MIN_VALUE), 1);
        DUE.is("30: any int", x.seed(-1000001), Integer.MIN_VALUE);
        DUE.is("30: no finding", x.seed(5), -1000001);
        DUE.is("30: none counted", x.status(-1), 0);
    }

    private static void shake() {
        LongColumn x = new LongColumn();
        DUE.is("31: no RANKS", x.shake(9), 0);
        DUE.is("31: nobody draws", x.count(4), 1);
        DUE.is("31: -1", x.shake(-1), Due.BEYOND);
        DUE.is("31: 1000", x.shake(1000), Due.BEYOND);
        Due.column(x, "keep 2 every 1");
        x.change(0, 5, 100);
        x.change(1, 5, -240);
        x.seed(0);
        // z: 12345, >>> 8 is 48; then 12345 * 1103515245 + 12345 is -740551042, >>> 8 is 13884438
        DUE.is("31: WORST", x.shake(10), 235);
        DUE.is("31: 100 less 10 and 48 by 21", x.rankOf(0, 5), 96);
        DUE.is("31: -240 less 10 and 13884438 by 21", x.rankOf(1, 5), -235);
        DUE.is("31: z", x.count(4), -740551042);
        x.seed(0);
        DUE.is("31: by 0", x.shake(0), 235);
        DUE.is("31: by 0 they draw too", x.count(4), -740551042);
        x.seed(0);
        x.change(0, 5, -100);
        x.shake(999);
        // -100 less 999 and 48: -1051 is -51
        DUE.is("31: by 999, WRAPPED", x.rankOf(0, 5), -51);
    }

    private static void hold() {
        LongColumn x = Due.of("ear 2 every 1");
        DUE.is("32: a RANK", x.hold(9, 1), 1);
        DUE.is("32: it holds", x.as(9, 1), 1);
        DUE.is("32: how many", x.count(5), 1);
        DUE.is("32: another one", x.hold(9, 0), 1);
        DUE.is("32: it holds the other one", x.as(9, 1), 0);
        DUE.is("32: nothing", x.hold(9, -1), 1);
        DUE.is("32: it holds nothing", x.as(9, 1), Due.MISSING);
        DUE.is("32: rank 2", x.hold(0, 2), Due.BEYOND);
        DUE.is("32: rank -2", x.hold(0, -2), Due.BEYOND);
        DUE.is("32: spot 10", x.hold(10, 0), Due.BEYOND);
        DUE.is("32: spot -1", x.hold(-1, -1), Due.BEYOND);
    }

    private static void as() {
        LongColumn x = Due.of("keep 1 every 1;ear 1 every 1;eye 1 every 1;mix 1 every 1;feet 1 every 1;"
                + "told 1 every 1;free 1 every 1");
        int[] kinds = {0b1, 0b11, 0b101, 0b1101, 0b10011, 0b100001, 0b1100001};
        for (int rank = 0; rank < 7; rank++) {
            x.hold(0, rank);
            for (int kind = 0; kind < 7; kind++) {
                boolean isOne = (kinds[rank] >> kind & 1) == 1;
                DUE.is("33: " + rank + " as " + kind, x.as(0, kind), isOne ? rank : Due.KIND);
            }
        }
        DUE.is("33: spot 10", x.as(10, 0), Due.BEYOND);
        DUE.is("33: spot -1", x.as(-1, 0), Due.BEYOND);
        DUE.is("33: kind 7", x.as(1, 7), Due.BEYOND);
        DUE.is("33: kind -1", x.as(1, -1), Due.BEYOND);
        DUE.is("33: MISSING", x.as(1, 6), Due.MISSING);
    }

    private static void sheet() {
        LongColumn x = new LongColumn();
        DUE.is("34: s 4", x.sheet(4, 8, 1), Due.BEYOND);
        DUE.is("34: s -1", x.sheet(-1, 8, -1), Due.BEYOND);
        DUE.is("34: bits 1", x.sheet(0, 1, -1), Due.BEYOND);
        DUE.is("34: bits 64", x.sheet(0, 64, 1), Due.BEYOND);
        DUE.is("34: n -1", x.sheet(0, 8, -1), Due.SIZE);
        DUE.is("34: n 41", x.sheet(0, 8, 41), Due.BEYOND);
        DUE.is("34: bits 0, n -1", x.sheet(0, 0, -1), Due.SIZE);
        DUE.is("34: bits 0, n 41", x.sheet(0, 0, 41), Due.BEYOND);
        DUE.is("34: still MISSING", x.write(0, 0, 1), Due.MISSING);
        DUE.is("34: 40", x.sheet(3, 32, 40), 40);
        DUE.is("34: none", x.sheet(2, 16, 0), 0);
        DUE.is("34: none is not MISSING", x.write(2, 0, 1), Due.BEYOND);
        DUE.is("34: MISSING", x.sheet(3, 0, 40), 0);
        DUE.is("34: it is", x.write(3, 0, 1), Due.MISSING);
        Due.column(x, "keep 1 every 1");
        x.sheet(0, 8, 1);
        x.write(0, 0, 9);
        x.sheet(0, 8, 2);
        x.change(0, 5, 7);
        DUE.is("34: all 0", x.load(0), 1);
        DUE.is("34: all 0, OUT", x.rankOf(0, 5), 0);
    }

    private static void write() {
        LongColumn x = Due.of("keep 3 every 1");
        x.rule(0, 2000);
        DUE.is("35: s 4", x.write(4, 0, 0), Due.BEYOND);
        DUE.is("35: s -1", x.write(-1, 0, 0), Due.BEYOND);
        DUE.is("35: MISSING", x.write(0, -1, 0), Due.MISSING);
        x.sheet(0, 8, 3);
        DUE.is("35: i -1", x.write(0, -1, 0), Due.BEYOND);
        DUE.is("35: i 3", x.write(0, 3, 0), Due.BEYOND);
        DUE.is("35: i 2", x.write(0, 2, 255), 1);
        DUE.is("35: i 1", x.write(0, 1, 0x1280), 1);
        DUE.is("35: i 0", x.write(0, 0, 127), 1);
        x.load(0);
        DUE.is("35: 127", x.rankOf(0, 5), 127);
        DUE.is("35: lowest bits", x.rankOf(1, 5), -128);
        DUE.is("35: 255", x.rankOf(2, 5), -1);
        x.sheet(1, 16, 3);
        x.write(1, 0, 255);
        x.write(1, 1, 0x7ffff);
        x.write(1, 2, 0x8000);
        x.load(1);
        DUE.is("35: 16 bits, 255", x.rankOf(0, 5), 255);
        DUE.is("35: 16 bits, -1", x.rankOf(1, 5), -1);
        // -32768 and 16 * 2000
        DUE.is("35: 16 bits, least", x.rankOf(2, 5), -768);
        x.sheet(2, 32, 3);
        x.write(2, 0, 65535);
        x.write(2, 1, Integer.MIN_VALUE);
        x.write(2, 2, Integer.MAX_VALUE);
        x.load(2);
        DUE.is("35: 32 bits", x.rankOf(0, 5), -465);
        DUE.is("35: 32 bits, least", x.rankOf(1, 5), 352);
        DUE.is("35: 32 bits, most", x.rankOf(2, 5), -353);
    }

    private static void sheetIs(String what, LongColumn x, int s, int... numbers) {
        x.load(s);
        for (int i = 0; i < numbers.length; i++) {
            DUE.is(what + ", " + i, x.rankOf(i, 5), numbers[i]);
        }
    }

    private static LongColumn withSheets() {
        LongColumn x = Due.of("keep 5 every 1");
        x.sheet(0, 8, 5);
        for (int i = 0; i < 5; i++) {
            x.write(0, i, i + 1);
        }
        x.sheet(1, 8, 3);
        return x;
    }

    private static void copy() {
        LongColumn x = withSheets();
        DUE.is("36: two", x.copy(0, 3, 1, 1, 2), 2);
        sheetIs("36: two", x, 1, 0, 4, 5);
        sheetIs("36: the source", x, 0, 1, 2, 3, 4, 5);
        DUE.is("36: onto itself, forth", x.copy(0, 0, 0, 1, 4), 4);
        sheetIs("36: onto itself, forth", x, 0, 1, 1, 2, 3, 4);
        x = withSheets();
        DUE.is("36: onto itself, back", x.copy(0, 1, 0, 0, 4), 4);
        sheetIs("36: onto itself, back", x, 0, 2, 3, 4, 5, 5);
        DUE.is("36: none at the end", x.copy(0, 5, 1, 3, 0), 0);
        DUE.is("36: none beyond the end", x.copy(0, 6, 1, 0, 0), Due.BEYOND);
        DUE.is("36: none beyond the other end", x.copy(0, 0, 1, 4, 0), Due.BEYOND);
        DUE.is("36: one too many", x.copy(0, 3, 1, 0, 3), Due.BEYOND);
        DUE.is("36: no room", x.copy(0, 0, 1, 1, 3), Due.BEYOND);
        DUE.is("36: from -1", x.copy(0, -1, 1, 0, 1), Due.BEYOND);
        DUE.is("36: to -1", x.copy(0, 0, 1, -1, 1), Due.BEYOND);
        DUE.is("36: n -1", x.copy(0, 1, 1, 1, -1), Due.BEYOND);
        DUE.is("36: far", x.copy(0, Integer.MAX_VALUE, 1, 0, Integer.MAX_VALUE), Due.BEYOND);
        DUE.is("36: far n", x.copy(0, 1, 1, 1, Integer.MAX_VALUE), Due.BEYOND);
        DUE.is("36: far back", x.copy(0, Integer.MIN_VALUE, 1, 0, Integer.MIN_VALUE), Due.BEYOND);
        sheetIs("36: it stays", x, 1, 0, 0, 0);
    }

    private static void copyOrder() {
        LongColumn x = withSheets();
        x.sheet(3, 16, 1);
        DUE.is("36: s 4", x.copy(4, 0, 2, 0, 1), Due.BEYOND);
        DUE.is("36: s -1", x.copy(-1, 0, 2, 0, 1), Due.BEYOND);
        DUE.is("36: t 4", x.copy(2, 0, 4, 0, 1), Due.BEYOND);
        DUE.is("36: t -1", x.copy(2, 0, -1, 0, 1), Due.BEYOND);
        DUE.is("36: s MISSING", x.copy(2, -1, 3, 0, 1), Due.MISSING);
        DUE.is("36: t MISSING", x.copy(3, -1, 2, 0, 1), Due.MISSING);
        DUE.is("36: KIND", x.copy(0, -1, 3, 0, 1), Due.KIND);
        DUE.is("36: KIND, none", x.copy(0, 0, 3, 0, 0), Due.KIND);
    }

    private static void load() {
        LongColumn x = new LongColumn();
        DUE.is("37: s 4", x.load(4), Due.BEYOND);
        DUE.is("37: s -1", x.load(-1), Due.BEYOND);
        DUE.is("37: MISSING", x.load(0), Due.MISSING);
        x.sheet(0, 16, 3);
        DUE.is("37: no RANKS", x.load(0), 0);
        x.write(0, 0, 251);
        x.write(0, 1, -250);
        Due.column(x, "keep 2 every 1");
        DUE.is("37: two came", x.load(0), 2);
        DUE.is("37: WRAPPED", x.rankOf(0, 5), -249);
        DUE.is("37: half", x.rankOf(1, 5), 250);
        x.sheet(0, 16, 1);
        DUE.is("37: one came", x.load(0), 1);
        DUE.is("37: it is 0", x.rankOf(0, 5), 0);
        DUE.is("37: the other one stays", x.rankOf(1, 5), 250);
    }

    private static void judge() {
        LongColumn x = new LongColumn();
        DUE.is("38: s 4", x.judge(4), Due.BEYOND);
        DUE.is("38: s -1", x.judge(-1), Due.BEYOND);
        DUE.is("38: MISSING ahead of NONE", x.judge(0), Due.MISSING);
        x.sheet(0, 16, 3);
        DUE.is("38: no RANKS", x.judge(0), Due.NONE);
        Due.column(x, "free 1 every 1 drift 99");
        DUE.is("38: the first", x.judge(0), 0);
        x.write(0, 0, 99);
        DUE.is("38: the second", x.judge(0), 1);
        x.write(0, 1, 198);
        x.write(0, 2, -203);
        DUE.is("38: WORST has no sign", x.judge(0), 2);
        x.write(0, 2, 203);
        DUE.is("38: all are", x.judge(0), -1);
        DUE.is("38: nothing changes", x.rankOf(0, 5), 0);
        x.sheet(1, 8, 0);
        DUE.is("38: none is", x.judge(1), -1);
        x.sheet(1, 8, 3);
        x.write(1, 0, 99);
        x.write(1, 1, 198);
        DUE.is("38: 198 does not fit 8 bits", x.judge(1), 1);
    }

    private static void image() {
        LongColumn x = Due.of("keep 2 every 1");
        DUE.is("39: kept", x.image(), 1);
        x.change(0, 5, 9);
        DUE.is("40: back", x.undo(), 2);
        DUE.is("40: OUT", x.rankOf(0, 5), 0);
        x.change(0, 5, 9);
        DUE.is("40: it stays kept", x.undo(), 2);
        DUE.is("40: OUT again", x.rankOf(0, 5), 0);
        x.change(0, 5, 9);
        DUE.is("39: kept anew", x.image(), 1);
        x.change(0, 5, 8);
        x.undo();
        DUE.is("40: what was kept latest", x.rankOf(0, 5), 9);
        Due.column(x, "free 2 every 1 drift 5");
        x.worst(3);
        x.worst(4);
        x.undo();
        x.tread(1);
        Due.column(x, "keep 2 every 1");
        DUE.is("40: nothing of those that are gone", x.rankOf(2, 5), 0);
        DUE.is("40: nor of the other one", x.rankOf(3, 5), 0);
        LongColumn y = new LongColumn();
        y.image();
        Due.column(y, "keep 2 every 1");
        DUE.is("40: no RANKS", y.undo(), 0);
        DUE.is("40: none are left", y.rankOf(0, 0), Due.BEYOND);
        DUE.is("40: they come anew", Due.column(y, "eye 1 every 7"), 1);
        DUE.is("40: from 0 on", y.rankOf(0, 1), 0);
    }

    private static void imageKeepsAll() {
        LongColumn x = Due.of("keep 2 every 5");
        x.drum(1, 2, 3);
        x.bend(4);
        x.seed(77);
        x.hold(3, 1);
        x.sheet(0, 8, 1);
        x.feed(0x61, 1);
        x.image();
        int[] other = {600, 1200, 10, 40, 5, 6, 7};
        int[] first = {500, 1100, 0, 30, 0, 100, 20};
        for (int what = 0; what < other.length; what++) {
            x.rule(what, other[what]);
        }
        for (int what = 2; what <= 5; what++) {
            x.change(1, what, 1);
        }
        x.carry(0, 9);
        x.drum(9, 9, 9);
        x.bend(0);
        x.seed(78);
        x.hold(3, -1);
        x.hold(4, 0);
        x.sheet(0, 16, 2);
        x.feed(0x6262, 2);
        DUE.is("40: undo", x.undo(), 2);
        DUE.is("40: THE TAPE goes on", x.count(3), 3);
        DUE.is("40: SHEETS go on", x.write(0, 1, 300), 1);
        for (int what = 0; what < first.length; what++) {
            DUE.is("40: rule " + what, x.rule(what, first[what]), first[what]);
        }
        int[] rank = {0, 5, 50, 50, 0, 0};
        for (int what = 0; what < rank.length; what++) {
            DUE.is("40: of the RANK " + what, x.rankOf(1, what), rank[what]);
        }
        DUE.is("40: the DRUM", x.drumOf(0, 0), 1);
        DUE.is("40: DRUMS", x.count(1), 1);
        DUE.is("40: BENDS", x.count(2), 1);
        DUE.is("40: z", x.count(4), 77);
        DUE.is("40: SPOTS", x.count(5), 1);
        DUE.is("40: the SPOT", x.as(3, 0), 1);
        DUE.is("40: by hand round the BEND", x.begin(2, 1), 104);
    }

    private static void tear() {
        LongColumn x = new LongColumn();
        DUE.is("40: nothing is kept", x.undo(), Due.NONE);
        DUE.is("41: nothing was", x.tear(), 0);
        x.image();
        DUE.is("41: something was", x.tear(), 1);
        DUE.is("41: no more", x.tear(), 0);
        DUE.is("41: nothing is kept", x.undo(), Due.NONE);
    }

    private static void count() {
        LongColumn x = Due.of("keep 3 every 5");
        x.drum(0, 1, 0);
        x.drum(0, 1, 0);
        x.bend(7);
        x.feed(0, 4);
        x.seed(-1000001);
        x.hold(0, 0);
        x.hold(1, 0);
        int[] due = {3, 2, 1, 4, -1000001, 2};
        for (int what = 0; what < due.length; what++) {
            DUE.is("42: " + what, x.count(what), due[what]);
        }
        DUE.is("42: none of these is a finding", x.status(-1), 0);
        DUE.is("42: -1", x.count(-1), Due.BEYOND);
        DUE.is("42: 6", x.count(6), Due.BEYOND);
    }

    private static void status() {
        LongColumn x = new LongColumn();
        x.image();
        x.count(9);
        x.count(9);
        Due.column(x, "keep 24 every 1");
        DUE.is("43: FULL", Due.column(x, "keep 1 every 1"), Due.FULL);
        x.hold(0, 0);
        DUE.is("43: KIND", x.as(0, 1), Due.KIND);
        DUE.is("43: NONE", x.opposite(0), Due.NONE);
        DUE.is("43: MISSING", x.load(0), Due.MISSING);
        DUE.is("43: SIZE", x.sheet(0, 8, -1), Due.SIZE);
        DUE.is("43: a FAULT is none", Due.column(x, "x"), -1);
        int[] due = {2, 1, 1, 1, 0, 1, 1};
        for (int which = 0; which < due.length; which++) {
            DUE.is("43: " + which, x.status(which), due[which]);
        }
        DUE.is("43: all", x.status(-1), 7);
        x.undo();
        DUE.is("43: undo takes none back", x.status(-1), 7);
        DUE.is("43: 7", x.status(7), Due.BEYOND);
        DUE.is("43: counted from then on", x.status(0), 3);
        DUE.is("43: -2", x.status(-2), Due.BEYOND);
        DUE.is("43: all then", x.status(-1), 9);
    }
}
