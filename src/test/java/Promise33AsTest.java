/** Promise 33: as. */
public final class Promise33AsTest {
    public static void main(String[] args) {
        Promise.run(Promise33AsTest.class);
    }

    /** A RANK of each kind, by its number, and SPOT i holds RANK i. */
    private static LongColumn kinds() {
        LongColumn x = Due.of("keep1every1;ear1every1;eye1every1;mix1every1;feet1every1;told1every1;free1every1");
        for (int kind = 0; kind <= 6; kind++) {
            x.hold(kind, kind);
        }
        return x;
    }

    /** Which kinds, as bits, a kind may be taken as. */
    private static void isTakenAs(Due due, int kind, int kinds) {
        LongColumn x = kinds();
        for (int as = 0; as <= 6; as++) {
            due.is(kind + " as " + as, x.as(kind, as), (kinds >> as & 1) == 1 ? kind : Due.KIND);
        }
    }

    @Sentence("of kinds: 0 KEEPER")
    static void keeper(Due due) {
        isTakenAs(due, 0, 0b0000001);
    }

    @Sentence("1 EAR, 2 EYE under KEEPER")
    static void earAndEye(Due due) {
        isTakenAs(due, 1, 0b0000011);
        isTakenAs(due, 2, 0b0000101);
    }

    @Sentence("3 MIXED under EYE")
    static void mixed(Due due) {
        isTakenAs(due, 3, 0b0001101);
    }

    @Sentence("4 FEET under EAR")
    static void feet(Due due) {
        isTakenAs(due, 4, 0b0010011);
    }

    @Sentence({"5 TOLD under KEEPER", "6 FREE under TOLD"})
    static void toldAndFree(Due due) {
        isTakenAs(due, 5, 0b0100001);
        isTakenAs(due, 6, 0b1100001);
    }

    @Sentence("What a SPOT holds as one of a kind (0 to 6): the number of the RANK.")
    static void theNumberOfTheRank(Due due) {
        LongColumn x = Due.of("keep 23 every 1;free 1 every 1");
        x.hold(0, 23);
        x.hold(9, 0);
        due.is("23 as FREE", x.as(0, 6), 23);
        due.is("23 as KEEPER", x.as(0, 0), 23);
        due.is("0 as KEEPER", x.as(9, 0), 0);
    }

    @Sentence({"SPOTS 0 to 9", "BEYOND."})
    static void spotTooSmall(Due due) {
        due.refuses("-1", Due.BEYOND, Due::some, x -> x.as(-1, 0));
        due.refuses("far", Due.BEYOND, Due::some, x -> x.as(Due.MIN, 0));
    }

    @Sentence({"SPOTS 0 to 9", "BEYOND."})
    static void spotTooLarge(Due due) {
        due.refuses("10", Due.BEYOND, Due::some, x -> x.as(10, 0));
        due.refuses("far", Due.BEYOND, Due::some, x -> x.as(Due.MAX, 0));
    }

    @Sentence({"of a kind (0 to 6)", "BEYOND."})
    static void kindTooSmall(Due due) {
        due.refuses("-1", Due.BEYOND, Due::some, x -> x.as(1, -1));
        due.refuses("far", Due.BEYOND, Due::some, x -> x.as(1, Due.MIN));
    }

    @Sentence({"of a kind (0 to 6)", "BEYOND."})
    static void kindTooLarge(Due due) {
        due.refuses("7", Due.BEYOND, Due::some, x -> x.as(1, 7));
        due.refuses("far", Due.BEYOND, Due::some, x -> x.as(1, Due.MAX));
    }

    @Sentence("MISSING: it holds nothing.")
    static void holdsNothing(Due due) {
        due.refuses("as KEEPER", Due.MISSING, Due::some, x -> x.as(0, 0));
        due.refuses("as FREE", Due.MISSING, Due::some, x -> x.as(9, 6));
        due.refuses("without RANKS", Due.MISSING, LongColumn::new, x -> x.as(0, 0));
    }

    @Sentence("KIND: it isn't of that kind, nor of one under it.")
    static void notOfThatKind(Due due) {
        due.refuses("KEEPER as EAR", Due.KIND, Promise33AsTest::kinds, x -> x.as(0, 1));
        due.refuses("FREE as EYE", Due.KIND, Promise33AsTest::kinds, x -> x.as(6, 2));
        due.refuses("EAR as FEET", Due.KIND, Promise33AsTest::kinds, x -> x.as(1, 4));
    }

    @Sentence({"BEYOND. MISSING: it holds nothing. KIND: it isn't of that kind", "in the order in which they are asked (that of its words)"})
    static void beyondAheadOfMissing(Due due) {
        due.refuses("kind 7 of nothing", Due.BEYOND, Due::some, x -> x.as(0, 7));
        due.refuses("kind -1 of nothing", Due.BEYOND, LongColumn::new, x -> x.as(0, -1));
    }
}
