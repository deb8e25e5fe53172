import java.util.Arrays;

/** In step over a mile: ../shared/DOC.md says, as numbered promises, what each call answers. */
public final class LongColumn {
    private static final int LOW = -1000001;
    private static final int BEYOND = 0;
    private static final int FULL = 1;
    private static final int KIND = 2;
    private static final int NONE = 3;
    private static final int MISSING = 5;
    private static final int SIZE = 6;
    private static final int FINDINGS = 7;

    private static final int PACE = 0;
    private static final int SPEED = 1;
    private static final int WIND = 2;
    private static final int NEAR = 3;
    private static final int ORDER = 4;
    private static final int WORD = 5;
    private static final int HAND = 6;
    private static final int RULES = 7;
    private static final int[] RULE_LEAST = {100, 500, -200, 0, -999, 0, 0};
    private static final int[] RULE_MOST = {2000, 2000, 200, 500, 999, 999, 999};
    private static final int[] RULE_FIRST = {500, 1100, 0, 30, 0, 100, 20};

    private static final int KEEPER = 0;
    private static final int EAR = 1;
    private static final int EYE = 2;
    private static final int MIXED = 3;
    private static final int FEET = 4;
    private static final int TOLD = 5;
    private static final int FREE = 6;
    private static final int KINDS = 7;
    private static final int[] UNDER = {-1, KEEPER, KEEPER, EYE, EAR, KEEPER, TOLD};

    private static final int OF_KIND = 0;
    private static final int OF_PLACE = 1;
    private static final int OF_PART = 2;
    private static final int OF_SHARE = 3;
    private static final int OF_DRIFT = 4;
    private static final int OF_OUT = 5;
    private static final int OF_DRUM = 6;
    private static final int OF_TURN = 7;

    private static final int BY_MOUTH = 0;
    private static final int BY_DRUM = 1;
    private static final int BY_HAND = 2;

    private static final int MOST_RANKS = 24;
    private static final int MOST_DRUMS = 6;
    private static final int MOST_BENDS = 6;
    private static final int MOST_BYTES = 120;
    private static final int LAST_PLACE = 4999;
    private static final int LONGEST_MARCH = 200;
    private static final int SPOTS = 10;
    private static final int SHEETS = 4;
    private static final int MOST_NUMBERS = 40;
    private static final int NOTHING = -1;
    /** Stands for a beat that isn't heard, a lag that isn't felt, a beginning that never comes. */
    private static final int NEVER = -2000000000;

    private final Column now = new Column();
    private final Column kept = new Column();
    private boolean isKept = false;
    private final TextReader reader = new TextReader();
    private final Sheet[] sheets = new Sheet[SHEETS];
    private final Senses senses = new Senses(now);
    private final Walk plain = new Walk(now, senses);
    private final Walk slipped = new Walk(now, senses);
    private final int[] past = new int[(LONGEST_MARCH + 1) * MOST_RANKS];
    private final int[] beginnings = new int[MOST_RANKS];
    private final int[] findings = new int[FINDINGS];

    public LongColumn() {
        for (int s = 0; s < SHEETS; s++) {
            sheets[s] = new Sheet();
        }
    }

    // ---- rules, texts

    public int rule(int what, int v) {
        if (!isWithin(what, 0, RULES - 1) || !isWithin(v, RULE_LEAST[what], RULE_MOST[what])) {
            return finding(BEYOND);
        }
        int was = now.rules[what];
        now.rules[what] = v;
        if (what == PACE) {
            now.wrapAnew();
        }
        return was;
    }

    public int feed(int bytes, int n) {
        if (!isWithin(n, 1, 4)) {
            return finding(BEYOND);
        }
        if (reader.length > MOST_BYTES - n) {
            return finding(FULL);
        }
        for (int i = n - 1; i >= 0; i--) {
            reader.tape[reader.length] = (bytes >>> (8 * i)) & 255;
            reader.length++;
        }
        return reader.length;
    }

    public int wipe() {
        int had = reader.length;
        reader.length = 0;
        return had;
    }

    public int column() {
        int fault = reader.readText();
        reader.length = 0;
        if (fault != TextReader.NO_FAULT) {
            return -1 - fault;
        }
        if (reader.ranks > MOST_RANKS - now.ranks) {
            return finding(FULL);
        }
        for (int group = 0; group < reader.groups; group++) {
            for (int i = 0; i < reader.of(group, TextReader.MANY); i++) {
                now.fallIn(reader, group);
            }
        }
        return now.ranks;
    }

    public int rankOf(int rank, int what) {
        if (!now.hasRank(rank) || !isWithin(what, OF_KIND, OF_TURN)) {
            return finding(BEYOND);
        }
        switch (what) {
            case OF_KIND:
                return now.kind[rank];
            case OF_PLACE:
                return now.at[rank];
            case OF_PART:
                return now.part[rank];
            case OF_SHARE:
                return now.share[rank];
            case OF_DRIFT:
                return now.drift[rank];
            case OF_OUT:
                return now.out[rank];
            case OF_DRUM:
                return now.drumFor(rank);
            default:
                senses.prepare();
                return senses.turnOf(rank, now.out);
        }
    }

    public int change(int rank, int what, int v) {
        if (!now.hasRank(rank)) {
            return finding(BEYOND);
        }
        switch (what) {
            case OF_PART:
                return isWithin(v, 0, 100) ? exchange(now.part, rank, v) : finding(BEYOND);
            case OF_SHARE:
                return isWithin(v, 0, 100) ? exchange(now.share, rank, v) : finding(BEYOND);
            case OF_DRIFT:
                return isWithin(v, -99, 99) ? exchange(now.drift, rank, v) : finding(BEYOND);
            case OF_OUT:
                return exchange(now.out, rank, now.wrap(v));
            default:
                return finding(BEYOND);
        }
    }

    public int drum(int at, int loud, int ahead) {
        if (!isPlace(at) || !isWithin(loud, 1, 99) || !isWithin(ahead, -999, 999)) {
            return finding(BEYOND);
        }
        if (now.drums >= MOST_DRUMS) {
            return finding(FULL);
        }
        int number = now.drums;
        now.drumAt[number] = at;
        now.drumLoud[number] = loud;
        now.drumAhead[number] = ahead;
        now.drums++;
        return number;
    }

    public int drumOf(int drum, int what) {
        if (!now.hasDrum(drum) || !isWithin(what, 0, 2)) {
            return finding(BEYOND);
        }
        if (what == 0) {
            return now.drumAt[drum];
        }
        return what == 1 ? now.drumLoud[drum] : now.drumAhead[drum];
    }

    public int carry(int drum, int at) {
        if (!now.hasDrum(drum) || !isPlace(at)) {
            return finding(BEYOND);
        }
        return exchange(now.drumAt, drum, at);
    }

    public int bend(int at) {
        if (!isPlace(at)) {
            return finding(BEYOND);
        }
        if (now.bends >= MOST_BENDS) {
            return finding(FULL);
        }
        now.bendAt[now.bends] = at;
        now.bends++;
        return now.bends;
    }

    public int lag(int from, int to) {
        if (!isPlace(from) || !isPlace(to)) {
            return finding(BEYOND);
        }
        return now.lagBetween(from, to);
    }

    // ---- treading

    public int tread(int n) {
        if (!isWithin(n, 1, 99)) {
            return finding(BEYOND);
        }
        if (now.ranks == 0) {
            return finding(NONE);
        }
        setOut();
        plain.walk(n);
        System.arraycopy(plain.outs, 0, now.out, 0, MOST_RANKS);
        return now.worstOf(now.out);
    }

    public int march(int rank, int n) {
        if (!now.hasRank(rank) || !isMarch(n)) {
            return finding(BEYOND);
        }
        setOut();
        plain.walk(n);
        return plain.outs[rank];
    }

    public int worst(int n) {
        if (!isMarch(n)) {
            return finding(BEYOND);
        }
        if (now.ranks == 0) {
            return finding(NONE);
        }
        setOut();
        plain.walk(n);
        return now.worstOf(plain.outs);
    }

    public int right(int n, int m) {
        if (!isWithin(n, 0, 999) || !isMarch(m)) {
            return finding(BEYOND);
        }
        setOut();
        plain.walk(m);
        int set = 0;
        for (int rank = 0; rank < now.ranks; rank++) {
            if (Math.abs(plain.outs[rank]) <= n) {
                set |= 1 << rank;
            }
        }
        return set;
    }

    public int settles() {
        setOut();
        for (int n = 0; n <= LONGEST_MARCH; n++) {
            if (!plain.step()) {
                return n;
            }
        }
        return finding(NONE);
    }

    public int round(int what) {
        if (!isWithin(what, 0, 1)) {
            return finding(BEYOND);
        }
        setOut();
        for (int n = 0; n <= LONGEST_MARCH; n++) {
            int earlier = whenAsNow(n);
            if (earlier >= 0) {
                return what == 0 ? earlier : n - earlier;
            }
            System.arraycopy(plain.outs, 0, past, n * MOST_RANKS, MOST_RANKS);
            plain.step();
        }
        return finding(NONE);
    }

    public int better(int n) {
        if (!isWithin(n, 1, LONGEST_MARCH)) {
            return finding(BEYOND);
        }
        setOut();
        int times = 0;
        int ahead = now.worstOf(plain.outs);
        for (int i = 0; i < n; i++) {
            plain.step();
            int behind = now.worstOf(plain.outs);
            if (behind < ahead) {
                times++;
            }
            ahead = behind;
        }
        return times;
    }

    // ---- drums

    public int place(int drum, int n) {
        if (!now.hasDrum(drum) || !isWithin(n, 0, 50)) {
            return finding(BEYOND);
        }
        if (now.ranks == 0) {
            return finding(NONE);
        }
        int stood = now.drumAt[drum];
        senses.prepare();
        int best = 0;
        int least = RULE_MOST[PACE];
        for (int rank = 0; rank < now.ranks; rank++) {
            now.drumAt[drum] = now.at[rank];
            int worst = worstWithDrumsSo(n);
            if (worst < least) {
                least = worst;
                best = rank;
            }
        }
        now.drumAt[drum] = stood;
        return best;
    }

    public int both(int one, int other, int n) {
        if (!areTwoDrums(one, other) || !isWithin(n, 0, 9)) {
            return finding(BEYOND);
        }
        if (now.ranks == 0) {
            return finding(NONE);
        }
        int oneStood = now.drumAt[one];
        int otherStood = now.drumAt[other];
        senses.prepare();
        int best = 0;
        int least = RULE_MOST[PACE];
        for (int first = 0; first < now.ranks; first++) {
            now.drumAt[one] = now.at[first];
            for (int second = 0; second < now.ranks; second++) {
                now.drumAt[other] = now.at[second];
                int worst = worstWithDrumsSo(n);
                if (worst < least) {
                    least = worst;
                    best = 100 * first + second;
                }
            }
        }
        now.drumAt[one] = oneStood;
        now.drumAt[other] = otherStood;
        return best;
    }

    public int two(int one, int other, int n, int what) {
        if (!areTwoDrums(one, other) || !isWithin(n, 1, 99) || !isWithin(what, 0, 1)) {
            return finding(BEYOND);
        }
        int toOne = now.lagBetween(now.drumAt[other], now.drumAt[one]);
        int toOther = now.lagBetween(now.drumAt[one], now.drumAt[other]);
        int aheadOne = now.drumAhead[one];
        int aheadOther = now.drumAhead[other];
        for (int i = 0; i < n; i++) {
            aheadOne -= now.wrap(aheadOne + toOne - aheadOther) / 2;
            aheadOther -= now.wrap(aheadOther + toOther - aheadOne) / 2;
        }
        return what == 0 ? aheadOne : aheadOther;
    }

    public int opposite(int rank) {
        if (!now.hasRank(rank)) {
            return finding(BEYOND);
        }
        int drum = now.drumFor(rank);
        if (drum == NOTHING) {
            return finding(NONE);
        }
        return isOpposite(now.lagFromDrum(drum, rank), now.rules[PACE]) ? 1 : 0;
    }

    public int edges(int rank, int low, int high, int what) {
        if (!now.hasRank(rank) || !isWithin(low, RULE_LEAST[PACE], RULE_MOST[PACE])
                || !isWithin(high, low, RULE_MOST[PACE]) || !isWithin(what, 0, 1)) {
            return finding(BEYOND);
        }
        int drum = now.drumFor(rank);
        if (drum == NOTHING) {
            return finding(NONE);
        }
        int lag = now.lagFromDrum(drum, rank);
        int found = 0;
        for (int pace = low; pace <= high; pace++) {
            if (isOpposite(lag, pace)) {
                if (what == 1) {
                    return pace;
                }
                found++;
            }
        }
        return what == 1 ? finding(NONE) : found;
    }

    // ---- slips, orders

    public int slip(int rank, int v, int n, int what) {
        if (!now.hasRank(rank) || !isWithin(v, -999, 999) || !isWithin(n, 0, 99)
                || !isWithin(what, 0, 2)) {
            return finding(BEYOND);
        }
        setOut();
        slipped.start();
        slipped.outs[rank] = now.wrap(slipped.outs[rank] + v);
        if (what == 2) {
            int alike = pacesUntilAlike(n);
            return alike < 0 ? finding(NONE) : alike;
        }
        plain.walk(n);
        slipped.walk(n);
        return what == 0 ? ranksThatDiffer() : greatestDifference();
    }

    public int begin(int way, int rank) {
        if (!isWithin(way, BY_MOUTH, BY_HAND) || !now.hasRank(rank)) {
            return finding(BEYOND);
        }
        tellBeginnings(way);
        return beginnings[rank] == NEVER ? finding(NONE) : beginnings[rank];
    }

    public int apart(int way) {
        if (!isWithin(way, BY_MOUTH, BY_HAND)) {
            return finding(BEYOND);
        }
        tellBeginnings(way);
        boolean begun = false;
        int first = 0;
        int last = 0;
        for (int rank = 0; rank < now.ranks; rank++) {
            int time = beginnings[rank];
            if (time != NEVER) {
                first = begun ? Math.min(first, time) : time;
                last = begun ? Math.max(last, time) : time;
                begun = true;
            }
        }
        return begun ? last - first : finding(NONE);
    }

    // ---- bridges

    public int bridge(int from, int to, int t, int n) {
        if (!isBridge(from, to, t) || !isMarch(n)) {
            return finding(BEYOND);
        }
        setOut();
        plain.walk(n);
        return togetherOn(from, to, t);
    }

    public int broken(int from, int to, int t, int most) {
        if (!isBridge(from, to, t) || !isWithin(most, 0, MOST_RANKS)) {
            return finding(BEYOND);
        }
        setOut();
        for (int n = 0; n <= LONGEST_MARCH; n++) {
            if (togetherOn(from, to, t) <= most) {
                return n;
            }
            if (!plain.step()) {
                break;
            }
        }
        return finding(NONE);
    }

    // ---- draws

    public int seed(int v) {
        int was = now.z;
        now.z = v;
        return was;
    }

    public int shake(int n) {
        if (!isWithin(n, 0, 999)) {
            return finding(BEYOND);
        }
        for (int rank = 0; rank < now.ranks; rank++) {
            now.out[rank] = now.wrap(now.out[rank] - n + now.draw() % (2 * n + 1));
        }
        return now.worstOf(now.out);
    }

    // ---- spots, sheets

    public int hold(int spot, int rank) {
        if (!isWithin(spot, 0, SPOTS - 1) || rank != NOTHING && !now.hasRank(rank)) {
            return finding(BEYOND);
        }
        now.spots[spot] = rank;
        return 1;
    }

    public int as(int spot, int kind) {
        if (!isWithin(spot, 0, SPOTS - 1) || !isWithin(kind, 0, KINDS - 1)) {
            return finding(BEYOND);
        }
        int rank = now.spots[spot];
        if (!now.hasRank(rank)) {
            return finding(MISSING);
        }
        return isUnder(now.kind[rank], kind) ? rank : finding(KIND);
    }

    public int sheet(int s, int bits, int n) {
        if (!isSheet(s) || bits != 0 && bits != 8 && bits != 16 && bits != 32) {
            return finding(BEYOND);
        }
        if (n < 0) {
            return finding(SIZE);
        }
        if (n > MOST_NUMBERS) {
            return finding(BEYOND);
        }
        sheets[s].makeAnew(bits, n);
        return sheets[s].size;
    }

    public int write(int s, int i, int v) {
        if (!isSheet(s)) {
            return finding(BEYOND);
        }
        if (sheets[s].isMissing()) {
            return finding(MISSING);
        }
        if (!isWithin(i, 0, sheets[s].size - 1)) {
            return finding(BEYOND);
        }
        sheets[s].put(i, v);
        return 1;
    }

    public int copy(int s, int from, int t, int to, int n) {
        if (!isSheet(s) || !isSheet(t)) {
            return finding(BEYOND);
        }
        Sheet source = sheets[s];
        Sheet target = sheets[t];
        if (source.isMissing() || target.isMissing()) {
            return finding(MISSING);
        }
        if (source.bits != target.bits) {
            return finding(KIND);
        }
        if (!source.hasFrom(from, n) || !target.hasFrom(to, n)) {
            return finding(BEYOND);
        }
        System.arraycopy(source.numbers, from, target.numbers, to, n);
        return n;
    }

    public int load(int s) {
        if (!isSheet(s)) {
            return finding(BEYOND);
        }
        if (sheets[s].isMissing()) {
            return finding(MISSING);
        }
        int came = Math.min(sheets[s].size, now.ranks);
        for (int rank = 0; rank < came; rank++) {
            now.out[rank] = now.wrap(sheets[s].numbers[rank]);
        }
        return came;
    }

    public int judge(int s) {
        if (!isSheet(s)) {
            return finding(BEYOND);
        }
        if (sheets[s].isMissing()) {
            return finding(MISSING);
        }
        if (now.ranks == 0) {
            return finding(NONE);
        }
        setOut();
        for (int i = 0; i < sheets[s].size; i++) {
            plain.step();
            if (sheets[s].numbers[i] != now.worstOf(plain.outs)) {
                return i;
            }
        }
        return -1;
    }

    // ---- images

    public int image() {
        kept.becomeAs(now);
        isKept = true;
        return 1;
    }

    public int undo() {
        if (!isKept) {
            return finding(NONE);
        }
        now.becomeAs(kept);
        return now.ranks;
    }

    public int tear() {
        int torn = isKept ? 1 : 0;
        isKept = false;
        return torn;
    }

    public int count(int what) {
        switch (what) {
            case 0:
                return now.ranks;
            case 1:
                return now.drums;
            case 2:
                return now.bends;
            case 3:
                return reader.length;
            case 4:
                return now.z;
            case 5:
                return now.spotsHeld();
            default:
                return finding(BEYOND);
        }
    }

    public int status(int which) {
        if (!isWithin(which, -1, FINDINGS - 1)) {
            return finding(BEYOND);
        }
        if (which >= 0) {
            return findings[which];
        }
        int all = 0;
        for (int i = 0; i < FINDINGS; i++) {
            all += findings[i];
        }
        return all;
    }

    // ---- what the calls share

    private int finding(int which) {
        findings[which]++;
        return LOW - which;
    }

    private static boolean isWithin(int v, int least, int most) {
        return v >= least && v <= most;
    }

    private static boolean isPlace(int at) {
        return isWithin(at, 0, LAST_PLACE);
    }

    private static boolean isMarch(int n) {
        return isWithin(n, 0, LONGEST_MARCH);
    }

    private static boolean isBridge(int from, int to, int t) {
        return isPlace(from) && isWithin(to, from, LAST_PLACE) && isWithin(t, 0, 999);
    }

    private static boolean isSheet(int s) {
        return isWithin(s, 0, SHEETS - 1);
    }

    private boolean areTwoDrums(int one, int other) {
        return now.hasDrum(one) && now.hasDrum(other) && one != other;
    }

    private static int exchange(int[] row, int i, int v) {
        int was = row[i];
        row[i] = v;
        return was;
    }

    /** Its double is more than less PACE, and PACE at most. */
    private static int wrapped(int number, int pace) {
        if (pace < 1) {
            return number;
        }
        int rest = number % pace;
        if (2 * rest > pace) {
            return rest - pace;
        }
        return 2 * rest <= -pace ? rest + pace : rest;
    }

    private static boolean isOpposite(int lag, int pace) {
        return Math.abs(wrapped(lag, pace)) * 4 >= pace;
    }

    private static boolean isUnder(int kind, int above) {
        int k = kind;
        for (int i = 0; i < KINDS && isWithin(k, 0, KINDS - 1); i++) {
            if (k == above) {
                return true;
            }
            k = UNDER[k];
        }
        return false;
    }

    private void setOut() {
        senses.prepare();
        plain.start();
    }

    /** A moved drum changes what is heard, but neither what is seen nor what is felt. */
    private int worstWithDrumsSo(int n) {
        senses.listen();
        plain.start();
        plain.walk(n);
        return now.worstOf(plain.outs);
    }

    /** The first of the n states in the past that is as the walk is now, or -1. */
    private int whenAsNow(int n) {
        for (int earlier = 0; earlier < n; earlier++) {
            if (wasAsNow(earlier)) {
                return earlier;
            }
        }
        return -1;
    }

    private boolean wasAsNow(int earlier) {
        for (int rank = 0; rank < now.ranks; rank++) {
            if (past[earlier * MOST_RANKS + rank] != plain.outs[rank]) {
                return false;
            }
        }
        return true;
    }

    private int pacesUntilAlike(int n) {
        for (int paces = 0; paces <= n; paces++) {
            if (ranksThatDiffer() == 0) {
                return paces;
            }
            plain.step();
            slipped.step();
        }
        return -1;
    }

    private int ranksThatDiffer() {
        int differ = 0;
        for (int rank = 0; rank < now.ranks; rank++) {
            if (plain.outs[rank] != slipped.outs[rank]) {
                differ++;
            }
        }
        return differ;
    }

    private int greatestDifference() {
        int greatest = 0;
        for (int rank = 0; rank < now.ranks; rank++) {
            int difference = now.wrap(slipped.outs[rank] - plain.outs[rank]);
            greatest = Math.max(greatest, Math.abs(difference));
        }
        return greatest;
    }

    private void tellBeginnings(int way) {
        for (int rank = 0; rank < now.ranks; rank++) {
            if (way == BY_DRUM) {
                beginnings[rank] = now.beatFor(rank);
            } else if (rank == 0) {
                beginnings[rank] = 0;
            } else {
                boolean byMouth = way == BY_MOUTH || now.isBehindBend(rank);
                int passed = byMouth ? now.passedByMouth(rank) : now.rules[HAND];
                beginnings[rank] = beginnings[rank - 1] + passed;
            }
        }
    }

    private int togetherOn(int from, int to, int t) {
        int most = 0;
        for (int first = 0; first < now.ranks; first++) {
            if (isWithin(now.at[first], from, to)) {
                most = Math.max(most, treadSoonBehind(first, from, to, t));
            }
        }
        return most;
    }

    private int treadSoonBehind(int first, int from, int to, int t) {
        int together = 0;
        for (int rank = 0; rank < now.ranks; rank++) {
            int behind = now.roundPace(plain.outs[rank] - plain.outs[first]);
            if (isWithin(now.at[rank], from, to) && behind <= t) {
                together++;
            }
        }
        return together;
    }

    /** All that an image keeps: rules, RANKS, DRUMS, BENDS, SPOTS, z. */
    private static final class Column {
        final int[] rules = RULE_FIRST.clone();
        int ranks = 0;
        final int[] kind = new int[MOST_RANKS];
        final int[] at = new int[MOST_RANKS];
        final int[] part = new int[MOST_RANKS];
        final int[] share = new int[MOST_RANKS];
        final int[] drift = new int[MOST_RANKS];
        final int[] out = new int[MOST_RANKS];
        int drums = 0;
        final int[] drumAt = new int[MOST_DRUMS];
        final int[] drumLoud = new int[MOST_DRUMS];
        final int[] drumAhead = new int[MOST_DRUMS];
        int bends = 0;
        final int[] bendAt = new int[MOST_BENDS];
        final int[] spots = new int[SPOTS];
        int z = 1;

        Column() {
            Arrays.fill(spots, NOTHING);
        }

        void becomeAs(Column other) {
            System.arraycopy(other.rules, 0, rules, 0, RULES);
            ranks = other.ranks;
            System.arraycopy(other.kind, 0, kind, 0, MOST_RANKS);
            System.arraycopy(other.at, 0, at, 0, MOST_RANKS);
            System.arraycopy(other.part, 0, part, 0, MOST_RANKS);
            System.arraycopy(other.share, 0, share, 0, MOST_RANKS);
            System.arraycopy(other.drift, 0, drift, 0, MOST_RANKS);
            System.arraycopy(other.out, 0, out, 0, MOST_RANKS);
            drums = other.drums;
            System.arraycopy(other.drumAt, 0, drumAt, 0, MOST_DRUMS);
            System.arraycopy(other.drumLoud, 0, drumLoud, 0, MOST_DRUMS);
            System.arraycopy(other.drumAhead, 0, drumAhead, 0, MOST_DRUMS);
            bends = other.bends;
            System.arraycopy(other.bendAt, 0, bendAt, 0, MOST_BENDS);
            System.arraycopy(other.spots, 0, spots, 0, SPOTS);
            z = other.z;
        }

        boolean hasRank(int rank) {
            return rank >= 0 && rank < ranks;
        }

        boolean hasDrum(int drum) {
            return drum >= 0 && drum < drums;
        }

        int wrap(int number) {
            return wrapped(number, rules[PACE]);
        }

        /** A difference as one of 0 to PACE less 1. */
        int roundPace(int difference) {
            int nearest = wrap(difference);
            return nearest < 0 ? nearest + rules[PACE] : nearest;
        }

        void wrapAnew() {
            for (int rank = 0; rank < ranks; rank++) {
                out[rank] = wrap(out[rank]);
            }
        }

        void fallIn(TextReader text, int group) {
            if (ranks >= MOST_RANKS) {
                return;
            }
            int rank = ranks;
            kind[rank] = text.of(group, OF_KIND);
            at[rank] = rank == 0 ? 0 : at[rank - 1] + text.of(group, TextReader.EVERY);
            part[rank] = text.of(group, OF_PART);
            share[rank] = text.of(group, OF_SHARE);
            drift[rank] = text.of(group, OF_DRIFT);
            out[rank] = 0;
            ranks++;
        }

        int lagBetween(int from, int to) {
            int speed = to > from ? rules[SPEED] + rules[WIND] : rules[SPEED] - rules[WIND];
            return speed > 0 ? Math.abs(to - from) * 1000 / speed : 0;
        }

        int drumFor(int rank) {
            int best = NOTHING;
            int loudest = 0;
            for (int drum = 0; drum < drums; drum++) {
                int heard = drumLoud[drum] - Math.abs(drumAt[drum] - at[rank]) / 50;
                if (heard > loudest) {
                    loudest = heard;
                    best = drum;
                }
            }
            return best;
        }

        int lagFromDrum(int drum, int rank) {
            return lagBetween(drumAt[drum], at[rank]);
        }

        int beatFor(int rank) {
            int drum = drumFor(rank);
            return drum == NOTHING ? NEVER : lagFromDrum(drum, rank) - drumAhead[drum];
        }

        boolean isBehindBend(int rank) {
            for (int i = 0; rank > 0 && i < bends; i++) {
                if (bendAt[i] >= at[rank - 1] && bendAt[i] < at[rank]) {
                    return true;
                }
            }
            return false;
        }

        int passedByMouth(int rank) {
            return rank > 0 ? rules[WORD] + lagBetween(at[rank - 1], at[rank]) : 0;
        }

        int worstOf(int[] outs) {
            int worst = 0;
            for (int rank = 0; rank < ranks; rank++) {
                worst = Math.max(worst, Math.abs(outs[rank]));
            }
            return worst;
        }

        int draw() {
            z = z * 1103515245 + 12345;
            return z >>> 8;
        }

        int spotsHeld() {
            int held = 0;
            for (int spot = 0; spot < SPOTS; spot++) {
                if (spots[spot] != NOTHING) {
                    held++;
                }
            }
            return held;
        }
    }

    /** What RANKS hear, see and feel: told once ahead of a march, for treading changes none of it. */
    private static final class Senses {
        private final Column column;
        private int pace = RULE_FIRST[PACE];
        private final int[] beat = new int[MOST_RANKS];
        private final boolean[] sees = new boolean[MOST_RANKS];
        private final int[] near = new int[MOST_RANKS];
        private final int[] felt = new int[MOST_RANKS * MOST_RANKS];

        Senses(Column column) {
            this.column = column;
        }

        void prepare() {
            pace = column.rules[PACE];
            listen();
            for (int rank = 0; rank < column.ranks; rank++) {
                sees[rank] = rank > 0 && !column.isBehindBend(rank);
                if (column.kind[rank] == FEET) {
                    feel(rank);
                }
            }
        }

        void listen() {
            for (int rank = 0; rank < column.ranks; rank++) {
                beat[rank] = column.beatFor(rank);
            }
        }

        private void feel(int rank) {
            near[rank] = 0;
            int here = column.at[rank];
            for (int other = 0; other < column.ranks; other++) {
                int there = column.at[other];
                if (other != rank && Math.abs(there - here) <= column.rules[NEAR]) {
                    felt[rank * MOST_RANKS + other] = column.lagBetween(there, here);
                    near[rank]++;
                } else {
                    felt[rank * MOST_RANKS + other] = NEVER;
                }
            }
        }

        int turnOf(int rank, int[] outs) {
            switch (column.kind[rank]) {
                case EAR:
                    return turnByEar(rank, outs);
                case EYE:
                    return turnByEye(rank, outs);
                case MIXED:
                    int byEye = turnByEye(rank, outs) * column.share[rank];
                    int byEar = turnByEar(rank, outs) * (100 - column.share[rank]);
                    return (byEye + byEar) / 100;
                case FEET:
                    return near[rank] > 0 ? turnByFeet(rank, outs) : turnByEar(rank, outs);
                case TOLD:
                    return wrapped(column.rules[ORDER] - outs[rank], pace);
                case FREE:
                    return column.drift[rank];
                default:
                    return 0;
            }
        }

        private int turnByEar(int rank, int[] outs) {
            if (beat[rank] == NEVER) {
                return 0;
            }
            return wrapped(beat[rank] - outs[rank], pace) * column.part[rank] / 100;
        }

        private int turnByEye(int rank, int[] outs) {
            if (rank < 1 || !sees[rank]) {
                return 0;
            }
            return wrapped(outs[rank - 1] - outs[rank], pace) * column.part[rank] / 100;
        }

        private int turnByFeet(int rank, int[] outs) {
            int sum = 0;
            for (int other = 0; other < column.ranks; other++) {
                int lag = felt[rank * MOST_RANKS + other];
                if (lag != NEVER) {
                    sum += wrapped(outs[other] + lag - outs[rank], pace);
                }
            }
            return near[rank] > 0 ? sum / near[rank] * column.part[rank] / 100 : 0;
        }
    }

    /** PACES that are trodden on rows of its own, so that the column itself stays as it is. */
    private static final class Walk {
        private final Column column;
        private final Senses senses;
        private int[] outs = new int[MOST_RANKS];
        private int[] next = new int[MOST_RANKS];

        Walk(Column column, Senses senses) {
            this.column = column;
            this.senses = senses;
        }

        void start() {
            System.arraycopy(column.out, 0, outs, 0, MOST_RANKS);
        }

        /** One PACE: whether it changed anything. */
        boolean step() {
            boolean changed = false;
            for (int rank = 0; rank < column.ranks; rank++) {
                next[rank] = wrapped(outs[rank] + senses.turnOf(rank, outs), senses.pace);
                changed |= next[rank] != outs[rank];
            }
            int[] before = outs;
            outs = next;
            next = before;
            return changed;
        }

        /** What a PACE leaves as it is, all later ones do too. */
        void walk(int n) {
            boolean goesOn = true;
            for (int i = 0; i < n && goesOn; i++) {
                goesOn = step();
            }
        }
    }

    /** THE TAPE, and the GROUPS that are read from it. */
    private static final class TextReader {
        static final int NO_FAULT = -1;
        /** Places of a GROUP's numbers, beside OF_KIND, OF_PART, OF_SHARE and OF_DRIFT. */
        static final int MANY = 1;
        static final int EVERY = 5;
        private static final int WIDTH = 6;
        /** A GROUP has ten bytes at least, and a SIGN parts two of them. */
        private static final int MOST_GROUPS = 11;
        private static final int MOST_NUMBER = 9999;

        private static final int END = 0;
        private static final int LETTERS = 1;
        private static final int DIGITS = 2;
        private static final int SIGN = 3;
        private static final int BLANK = 4;
        private static final int NO_TOKEN = 5;

        final int[] tape = new int[MOST_BYTES];
        int length = 0;
        int groups = 0;
        int ranks = 0;
        private final int[] read = new int[MOST_GROUPS * WIDTH];
        private int token = END;
        private int start = 0;
        private int end = 0;
        private int number = 0;

        int of(int group, int what) {
            return read[group * WIDTH + what];
        }

        /** The FAULT, or NO_FAULT; reading stops at the TOKEN that can't stand where it is. */
        int readText() {
            groups = 0;
            ranks = 0;
            end = 0;
            nextToken();
            for (int i = 0; i < MOST_GROUPS; i++) {
                if (!readGroup()) {
                    return start;
                }
                if (token == END) {
                    return NO_FAULT;
                }
                if (token != SIGN) {
                    return start;
                }
                nextToken();
            }
            return start;
        }

        private boolean readGroup() {
            if (groups >= MOST_GROUPS) {
                return false;
            }
            int kind = kindHere();
            if (kind == NOTHING) {
                return false;
            }
            note(OF_KIND, kind);
            nextToken();
            if (!readNumber(MANY, 1, MOST_RANKS) || !isWord("every")) {
                return false;
            }
            nextToken();
            if (!readNumber(EVERY, 1, 200) || !readOptions()) {
                return false;
            }
            ranks += of(groups, MANY);
            groups++;
            return true;
        }

        private boolean readOptions() {
            note(OF_PART, 50);
            note(OF_SHARE, 50);
            note(OF_DRIFT, 0);
            for (int i = 0; i < MOST_BYTES; i++) {
                int option = optionHere();
                if (option == NOTHING) {
                    return true;
                }
                nextToken();
                if (!readNumber(option, 0, option == OF_DRIFT ? 99 : 100)) {
                    return false;
                }
            }
            return true;
        }

        private boolean readNumber(int what, int least, int most) {
            if (token != DIGITS || number < least || number > most) {
                return false;
            }
            note(what, number);
            nextToken();
            return true;
        }

        private void note(int what, int v) {
            read[groups * WIDTH + what] = v;
        }

        private int optionHere() {
            if (isWord("part")) {
                return OF_PART;
            }
            if (isWord("share")) {
                return OF_SHARE;
            }
            return isWord("drift") ? OF_DRIFT : NOTHING;
        }

        private int kindHere() {
            for (int kind = 0; kind < KINDS; kind++) {
                if (isWord(wordOf(kind))) {
                    return kind;
                }
            }
            return NOTHING;
        }

        private static String wordOf(int kind) {
            switch (kind) {
                case KEEPER:
                    return "keep";
                case EAR:
                    return "ear";
                case EYE:
                    return "eye";
                case MIXED:
                    return "mix";
                case FEET:
                    return "feet";
                case TOLD:
                    return "told";
                default:
                    return "free";
            }
        }

        private boolean isWord(String word) {
            if (token != LETTERS || end - start != word.length()) {
                return false;
            }
            for (int i = 0; i < word.length(); i++) {
                if (tape[start + i] != word.charAt(i)) {
                    return false;
                }
            }
            return true;
        }

        private void nextToken() {
            start = end;
            while (start < length && tokenOf(tape[start]) == BLANK) {
                start++;
            }
            end = start;
            number = 0;
            token = start < length ? tokenOf(tape[start]) : END;
            if (token == SIGN || token == NO_TOKEN) {
                end++;
                return;
            }
            while (end < length && tokenOf(tape[end]) == token) {
                if (token == DIGITS) {
                    // What is too great stays too great, however long the row is.
                    number = Math.min(number * 10 + tape[end] - '0', MOST_NUMBER + 1);
                }
                end++;
            }
        }

        private static int tokenOf(int sign) {
            if (sign >= 'a' && sign <= 'z') {
                return LETTERS;
            }
            if (sign >= '0' && sign <= '9') {
                return DIGITS;
            }
            if (sign == ';') {
                return SIGN;
            }
            return sign == ' ' ? BLANK : NO_TOKEN;
        }
    }

    /** A row of numbers, each kept as its lowest bits tell it with their sign; without bits it is MISSING. */
    private static final class Sheet {
        int bits = 0;
        int size = 0;
        final int[] numbers = new int[MOST_NUMBERS];

        boolean isMissing() {
            return bits == 0;
        }

        void makeAnew(int newBits, int n) {
            bits = newBits;
            size = newBits == 0 ? 0 : n;
            Arrays.fill(numbers, 0);
        }

        void put(int i, int v) {
            if (bits == 8) {
                numbers[i] = (byte) v;
            } else if (bits == 16) {
                numbers[i] = (short) v;
            } else {
                numbers[i] = v;
            }
        }

        boolean hasFrom(int from, int n) {
            return from >= 0 && n >= 0 && from <= size && n <= size - from;
        }
    }
}
