/**
 * All that calls tell of a column without changing it (but for status(), which MISSING ones count on),
 * as a text. A column of 24 RANKS takes some 200 calls: of the 512 two such looks may be had.
 */
final class Seen {
    private static final int[] RULE_MOST = {2000, 2000, 200, 500, 999, 999, 999};

    private Seen() {
    }

    static String of(LongColumn x) {
        StringBuilder seen = new StringBuilder();
        for (int what = 0; what <= 5; what++) {
            seen.append(x.count(what)).append(' ');
        }
        rules(x, seen.append("rules "));
        ranks(x, seen.append("RANKS "));
        drums(x, seen.append("DRUMS "));
        for (int spot = 0; spot < 10; spot++) {
            seen.append(x.as(spot, 0)).append(' ');
        }
        sheets(x, seen.append("SHEETS "));
        return seen.toString();
    }

    /** A rule is told only when it becomes another one; PACE at its most leaves OUT as it is. */
    private static void rules(LongColumn x, StringBuilder seen) {
        for (int what = 0; what < RULE_MOST.length; what++) {
            int was = x.rule(what, RULE_MOST[what]);
            x.rule(what, was);
            seen.append(was).append(' ');
        }
    }

    private static void ranks(LongColumn x, StringBuilder seen) {
        int ranks = x.count(0);
        for (int rank = 0; rank < ranks; rank++) {
            for (int what = 0; what <= 5; what++) {
                seen.append(x.rankOf(rank, what)).append(' ');
            }
        }
        if (ranks > 0) {
            // BENDS are told by how the last one begins
            seen.append(x.begin(2, ranks - 1)).append(' ');
        }
    }

    private static void drums(LongColumn x, StringBuilder seen) {
        int drums = x.count(1);
        for (int drum = 0; drum < drums; drum++) {
            for (int what = 0; what <= 2; what++) {
                seen.append(x.drumOf(drum, what)).append(' ');
            }
        }
    }

    /** Numbers of a sheet are told as OUT, which becomes what it was. */
    private static void sheets(LongColumn x, StringBuilder seen) {
        int[] outs = new int[x.count(0)];
        for (int rank = 0; rank < outs.length; rank++) {
            outs[rank] = x.rankOf(rank, 5);
        }
        for (int s = 0; s < 4; s++) {
            int came = x.load(s);
            seen.append(came).append(' ');
            for (int rank = 0; rank < came && rank < outs.length; rank++) {
                seen.append(x.rankOf(rank, 5)).append(' ');
                x.change(rank, 5, outs[rank]);
            }
        }
    }
}
