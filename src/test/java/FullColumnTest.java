/** Every act that goes along the column, at the limits: 24 RANKS, 6 DRUMS, 6 BENDS. */
public final class FullColumnTest {
    private static final Due DUE = new Due();

    public static void main(String[] args) {
        feet();
        free();
        drums();
        orders();
        sheetsAndImages();
        DUE.end();
    }

    private static void feet() {
        LongColumn x = Due.of("feet 24 every 1");
        x.rule(3, 500);
        // LAGS of 1 to 23 feet are 240 together: 10 by 23, and half of that
        DUE.is("6: the last one feels all", x.rankOf(23, 7), 5);
        DUE.is("6: so does the first", x.rankOf(0, 7), 5);
        DUE.is("14: OUT of the last", x.march(23, 1), 5);
        DUE.is("13: trodden", x.tread(1), 5);
        DUE.is("43: no finding", x.status(-1), 0);
    }

    private static void free() {
        LongColumn x = Due.of("free 24 every 200 drift 1");
        DUE.is("6: the last place", x.rankOf(23, 1), 4600);
        DUE.is("15: worst", x.worst(200), 200);
        DUE.is("16: right", x.right(5, 5), 0xffffff);
        DUE.is("16: not right", x.right(5, 6), 0);
        DUE.is("17: settles", x.settles(), Due.NONE);
        DUE.is("18: too long", x.round(0), Due.NONE);
        DUE.is("19: never better", x.better(200), 0);
        x.rule(0, 200);
        DUE.is("18: from", x.round(0), 0);
        DUE.is("18: by", x.round(1), 200);
        DUE.is("25: one differs", x.slip(23, 7, 99, 0), 1);
        DUE.is("25: by 7", x.slip(23, 7, 99, 1), 7);
        DUE.is("25: it stays so", x.slip(23, 7, 99, 2), Due.NONE);
        DUE.is("28: all tread together", x.bridge(0, 4600, 0, 200), 24);
        DUE.is("28: all but the last", x.bridge(0, 4599, 0, 200), 23);
        DUE.is("29: never broken", x.broken(0, 4999, 0, 23), Due.NONE);
        DUE.is("31: by 0", x.shake(0), 0);
        x.change(23, 5, 99);
        DUE.is("2: the last is WRAPPED anew", x.rule(0, 100), 200);
        DUE.is("2: it is", x.rankOf(23, 5), -1);
        DUE.is("15: the last is worst", x.worst(0), 1);
    }

    private static void drums() {
        LongColumn x = Due.of("ear 24 every 11 part 100");
        for (int i = 0; i < 6; i++) {
            x.drum(4999, 1, 0);
        }
        DUE.is("6: nobody hears", x.rankOf(23, 6), -1);
        DUE.is("20: a faint one, the least", x.place(5, 50), 0);
        x = Due.of("ear 24 every 11 part 100");
        for (int i = 0; i < 6; i++) {
            x.drum(4999, i == 5 ? 99 : 1, 0);
        }
        // LAG is 10 for each RANK between: 120 from 11 or 12, of which 11 is the least
        DUE.is("20: in the middle", x.place(5, 50), 11);
        x = Due.of("ear 24 every 11 part 100");
        x.drum(0, 99, 0);
        x.drum(0, 99, 0);
        // RANK 12 hears both as loud, and so the one: it must not be farther off than at 6
        DUE.is("21: each in its half", x.both(0, 1, 9), 617);
        x.carry(1, 253);
        DUE.is("23: the last one", x.opposite(23), 0);
        DUE.is("24: never", x.edges(23, 100, 2000, 0), 0);
        // at 143 feet both are as loud: it begins by the one at 0
        DUE.is("27: the last has its own", x.apart(1), 130);
    }

    private static void orders() {
        LongColumn x = Due.of("eye 24 every 11 part 100");
        int[] bends = {0, 11, 22, 33, 44, 252};
        for (int at : bends) {
            x.bend(at);
        }
        // 23 times 100 and 10; 17 times 20, 6 times 110
        DUE.is("26: mouth", x.begin(0, 23), 2530);
        DUE.is("26: hand", x.begin(2, 23), 1000);
        DUE.is("27: mouth", x.apart(0), 2530);
        DUE.is("27: hand", x.apart(2), 1000);
        x.change(22, 5, 70);
        DUE.is("6: the last sees nobody", x.rankOf(23, 7), 0);
        DUE.is("6: the one ahead sees", x.rankOf(22, 7), -70);
    }

    private static void sheetsAndImages() {
        LongColumn x = Due.of("keep 24 every 1");
        x.sheet(0, 8, 40);
        for (int i = 0; i < 40; i++) {
            x.write(0, i, i + 1);
        }
        DUE.is("37: 24 came", x.load(0), 24);
        DUE.is("37: the last", x.rankOf(23, 5), 24);
        DUE.is("38: 24 for ever", x.judge(0), 0);
        for (int i = 0; i < 40; i++) {
            x.write(0, i, 24);
        }
        DUE.is("38: all are", x.judge(0), -1);
        for (int spot = 0; spot < 10; spot++) {
            x.hold(spot, 23);
        }
        x.image();
        x.change(23, 5, 0);
        DUE.is("40: 24", x.undo(), 24);
        DUE.is("40: the last", x.rankOf(23, 5), 24);
        DUE.is("42: all SPOTS", x.count(5), 10);
        DUE.is("33: the last", x.as(9, 0), 23);
    }
}
