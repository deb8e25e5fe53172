/** Promise 27: apart. */
public final class Promise27ApartTest {
    private static final int MOUTH = 0;
    private static final int DRUM = 1;
    private static final int HAND = 2;

    public static void main(String[] args) {
        Promise.run(Promise27ApartTest.class);
    }

    private static LongColumn withDrum(int at, int loud, int ahead) {
        LongColumn x = Due.of("keep 4 every 55");
        x.drum(at, loud, ahead);
        return x;
    }

    @Sentence("How long behind the first one to begin the last one does, by a way")
    static void eachWay(Due due) {
        LongColumn x = Due.of("keep 4 every 55");
        due.is("mouth", x.apart(MOUTH), 450);
        due.is("hand", x.apart(HAND), 60);
        x.bend(55);
        due.is("hand round a BEND", x.apart(HAND), 190);
        // LAG 100, 50, 0, 50
        due.is("drum", withDrum(110, 99, 0).apart(DRUM), 100);
    }

    @Sentence("How long behind the first one to begin the last one does")
    static void theFirstIsNotRank0(Due due) {
        due.is("all are ahead of 0", withDrum(165, 99, 999).apart(DRUM), 150);
        due.is("all are behind 0", withDrum(165, 99, -999).apart(DRUM), 150);
    }

    @Sentence("(RANKS without a DRUM don't begin by it)")
    static void someDoNotHear(Due due) {
        // heard at 55, 110, 165, not at 0
        due.is("three hear it", withDrum(110, 2, 999).apart(DRUM), 50);
        due.is("two hear it", withDrum(165, 2, -999).apart(DRUM), 50);
        due.is("one hears it", withDrum(165, 1, 70).apart(DRUM), 0);
    }

    @Sentence("How long")
    static void oneAlone(Due due) {
        LongColumn x = Due.of("keep 1 every 1");
        x.drum(100, 99, 33);
        for (int way = 0; way <= 2; way++) {
            due.is("way " + way, x.apart(way), 0);
        }
    }

    @Sentence("NONE: nobody begins.")
    static void noRanks(Due due) {
        for (int i = 0; i <= 2; i++) {
            int way = i;
            due.refuses("way " + way, Due.NONE, LongColumn::new, x -> x.apart(way));
        }
    }

    @Sentence("NONE: nobody begins.")
    static void nobodyHears(Due due) {
        due.refuses("no DRUM", Due.NONE, () -> Due.of("keep 4 every 55"), x -> x.apart(DRUM));
        due.refuses("one far off", Due.NONE, () -> withDrum(4999, 9, 0), x -> x.apart(DRUM));
    }

    @Sentence({"by a way", "BEYOND."})
    static void wayTooSmall(Due due) {
        due.refuses("-1", Due.BEYOND, Due::some, x -> x.apart(-1));
        due.refuses("far", Due.BEYOND, Due::some, x -> x.apart(Due.MIN));
    }

    @Sentence({"by a way", "BEYOND."})
    static void wayTooLarge(Due due) {
        due.refuses("3", Due.BEYOND, Due::some, x -> x.apart(3));
        due.refuses("far", Due.BEYOND, Due::some, x -> x.apart(Due.MAX));
    }

    @Sentence({"BEYOND. NONE: nobody begins.", "in the order in which they are asked (that of its words)"})
    static void beyondAheadOfNone(Due due) {
        due.refuses("3", Due.BEYOND, LongColumn::new, x -> x.apart(3));
        due.refuses("-1", Due.BEYOND, LongColumn::new, x -> x.apart(-1));
    }

    @Sentence("the last one does")
    static void theLastOf24(Due due) {
        LongColumn x = Due.of("keep 24 every 11");
        due.is("mouth", x.apart(MOUTH), 2530);
        due.is("hand", x.apart(HAND), 460);
        x.drum(0, 99, 0);
        due.is("drum", x.apart(DRUM), 230);
    }
}
