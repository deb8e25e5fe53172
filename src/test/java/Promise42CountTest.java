/** Promise 42: count. */
public final class Promise42CountTest {
    public static void main(String[] args) {
        Promise.run(Promise42CountTest.class);
    }

    @Sentence("0 RANKS, 1 DRUMS, 2 BENDS, 3 bytes of THE TAPE, 4 z, 5 SPOTS that hold something.")
    static void eachWhat(Due due) {
        LongColumn x = Due.of("keep 6 every 5");
        for (int i = 0; i < 5; i++) {
            x.drum(0, 1, 0);
        }
        for (int i = 0; i < 4; i++) {
            x.bend(7);
        }
        x.feed(0, 3);
        x.seed(-7);
        x.hold(0, 0);
        x.hold(9, 0);
        int[] many = {6, 5, 4, 3, -7, 2};
        for (int what = 0; what < many.length; what++) {
            due.is("what " + what, x.count(what), many[what]);
        }
    }

    @Sentence("0 RANKS, 1 DRUMS, 2 BENDS, 3 bytes of THE TAPE")
    static void none(Due due) {
        LongColumn x = new LongColumn();
        int[] many = {0, 0, 0, 0, 1, 0};
        for (int what = 0; what < many.length; what++) {
            due.is("what " + what, x.count(what), many[what]);
        }
    }

    @Sentence({"RANKS 0, 1, .. (at most 24)", "DRUMS 0, 1, .. (at most 6)", "BENDS (at most 6)", "THE TAPE (bytes, at most 120)",
        "SPOTS 0 to 9"})
    static void allThatHasRoom(Due due) {
        LongColumn x = Due.of("keep 24 every 5");
        for (int i = 0; i < 6; i++) {
            x.drum(0, 1, 0);
            x.bend(7);
        }
        Due.feed(x, " ".repeat(120));
        for (int spot = 0; spot <= 9; spot++) {
            x.hold(spot, spot);
        }
        int[] many = {24, 6, 6, 120, 1, 10};
        for (int what = 0; what < many.length; what++) {
            due.is("what " + what, x.count(what), many[what]);
        }
    }

    @Sentence("5 SPOTS that hold something")
    static void spots(Due due) {
        LongColumn x = Due.of("keep 2 every 5");
        x.hold(3, 0);
        x.hold(3, 1);
        due.is("one holds another", x.count(5), 1);
        x.hold(4, 1);
        due.is("two hold one", x.count(5), 2);
        x.hold(3, -1);
        due.is("one holds nothing", x.count(5), 1);
        x.hold(3, -1);
        due.is("nothing again", x.count(5), 1);
    }

    @Sentence("What seed() and count(4) tell, z, may be any int: that is no finding.")
    static void zIsNoFinding(Due due) {
        LongColumn x = new LongColumn();
        int[] any = {Due.BEYOND, Due.SIZE, Due.MIN, Due.MAX, -1};
        for (int z : any) {
            x.seed(z);
            due.is("z", x.count(4), z);
        }
        due.is("no finding", x.status(-1), 0);
    }

    @Sentence("BEYOND: another what.")
    static void whatTooSmall(Due due) {
        due.refuses("-1", Due.BEYOND, Due::some, x -> x.count(-1));
        due.refuses("far", Due.BEYOND, Due::some, x -> x.count(Due.MIN));
    }

    @Sentence("BEYOND: another what.")
    static void whatTooLarge(Due due) {
        due.refuses("6", Due.BEYOND, Due::some, x -> x.count(6));
        due.refuses("far", Due.BEYOND, Due::some, x -> x.count(Due.MAX));
    }
}
