/** Promise 30: seed. */
public final class Promise30SeedTest {
    public static void main(String[] args) {
        Promise.run(Promise30SeedTest.class);
    }

    @Sentence("z becomes v: what it was.")
    static void whatItWas(Due due) {
        LongColumn x = new LongColumn();
        due.is("at first", x.seed(5), 1);
        due.is("then", x.seed(6), 5);
        due.is("it is", x.count(4), 6);
    }

    @Sentence("What seed() and count(4) tell, z, may be any int: that is no finding.")
    static void anyInt(Due due) {
        LongColumn x = new LongColumn();
        int[] any = {0, -1, Due.MIN, Due.MAX, Due.BEYOND, Due.FULL, Due.KIND, Due.NONE, Due.STATE, Due.MISSING, Due.SIZE};
        int was = 1;
        for (int z : any) {
            due.is("before " + z, x.seed(z), was);
            due.is("it is " + z, x.count(4), z);
            was = z;
        }
        due.is("the last one", x.seed(1), Due.SIZE);
        due.is("no finding", x.status(-1), 0);
    }

    @Sentence("z becomes v")
    static void allElseStays(Due due) {
        LongColumn x = Due.some();
        String before = Seen.of(x);
        int was = x.seed(-5);
        x.seed(was);
        due.holds("as it was", Seen.of(x).equals(before));
    }
}
