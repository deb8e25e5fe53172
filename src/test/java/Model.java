import java.util.ArrayList;
import java.util.Arrays;
import java.util.List;
import java.util.regex.Matcher;
import java.util.regex.Pattern;

/**
 * The document once more, without care for time or room, so that random runs of calls can be held
 * against it. Findings are thrown.
 */
final class Model {
    private static final String[] KINDS = {"keep", "ear", "eye", "mix", "feet", "told", "free"};
    private static final String FAMILY = "0 10 20 320 410 50 650";

    private static final class Finding extends RuntimeException {
        private static final long serialVersionUID = 1L;
        final int which;

        Finding(int which) {
            super(null, null, false, false);
            this.which = which;
        }
    }

    private static final class Rank {
        int kind;
        int at;
        int part;
        int share;
        int drift;
        int out;

        Rank again() {
            Rank r = new Rank();
            r.kind = kind;
            r.at = at;
            r.part = part;
            r.share = share;
            r.drift = drift;
            r.out = out;
            return r;
        }
    }

    private static final class All {
        int[] rules = {500, 1100, 0, 30, 0, 100, 20};
        List<Rank> ranks = new ArrayList<>();
        List<int[]> drums = new ArrayList<>();
        List<Integer> bends = new ArrayList<>();
        int z = 1;
        int[] spots = {-1, -1, -1, -1, -1, -1, -1, -1, -1, -1};

        All again() {
            All a = new All();
            a.rules = rules.clone();
            for (Rank r : ranks) {
                a.ranks.add(r.again());
            }
            for (int[] d : drums) {
                a.drums.add(d.clone());
            }
            a.bends.addAll(bends);
            a.z = z;
            a.spots = spots.clone();
            return a;
        }

        int wrapped(long v) {
            return wrappedBy(v, rules[0]);
        }

        int lag(int from, int to) {
            long distance = Math.abs(to - from);
            int by = to > from ? rules[1] + rules[2] : rules[1] - rules[2];
            return (int) (distance * 1000 / by);
        }

        int drumOf(int rank) {
            int best = -1;
            for (int d = drums.size() - 1; d >= 0; d--) {
                int loud = loudness(d, rank);
                if (loud >= 1 && (best < 0 || loud >= loudness(best, rank))) {
                    best = d;
                }
            }
            return best;
        }

        int loudness(int d, int rank) {
            return drums.get(d)[1] - Math.abs(drums.get(d)[0] - ranks.get(rank).at) / 50;
        }

        boolean bendAheadOf(int rank) {
            int low = ranks.get(rank - 1).at;
            int high = ranks.get(rank).at;
            return bends.stream().anyMatch(b -> b >= low && b < high);
        }

        int ear(int rank) {
            int d = drumOf(rank);
            if (d < 0) {
                return 0;
            }
            Rank r = ranks.get(rank);
            return wrapped(lag(drums.get(d)[0], r.at) - drums.get(d)[2] - r.out) * r.part / 100;
        }

        int eye(int rank) {
            if (rank == 0 || bendAheadOf(rank)) {
                return 0;
            }
            return wrapped(ranks.get(rank - 1).out - ranks.get(rank).out) * ranks.get(rank).part / 100;
        }

        int feet(int rank) {
            Rank r = ranks.get(rank);
            List<Integer> felt = new ArrayList<>();
            for (Rank o : ranks) {
                if (o != r && Math.abs(o.at - r.at) <= rules[3]) {
                    felt.add(wrapped(o.out + lag(o.at, r.at) - r.out));
                }
            }
            if (felt.isEmpty()) {
                return ear(rank);
            }
            int sum = felt.stream().mapToInt(Integer::intValue).sum();
            return sum / felt.size() * r.part / 100;
        }

        int turn(int rank) {
            Rank r = ranks.get(rank);
            return switch (r.kind) {
                case 1 -> ear(rank);
                case 2 -> eye(rank);
                case 3 -> (eye(rank) * r.share + ear(rank) * (100 - r.share)) / 100;
                case 4 -> feet(rank);
                case 5 -> wrapped(rules[4] - r.out);
                case 6 -> r.drift;
                default -> 0;
            };
        }

        All trodden(int n) {
            All a = again();
            for (int i = 0; i < n; i++) {
                int[] turns = new int[a.ranks.size()];
                for (int rank = 0; rank < turns.length; rank++) {
                    turns[rank] = a.turn(rank);
                }
                for (int rank = 0; rank < turns.length; rank++) {
                    a.ranks.get(rank).out = a.wrapped(a.ranks.get(rank).out + turns[rank]);
                }
            }
            return a;
        }

        int worst() {
            return ranks.stream().mapToInt(r -> Math.abs(r.out)).max().orElse(0);
        }

        List<Integer> outs() {
            List<Integer> outs = new ArrayList<>();
            for (Rank r : ranks) {
                outs.add(r.out);
            }
            return outs;
        }

        int together(int from, int to, int t) {
            int most = 0;
            for (Rank one : ranks) {
                int many = 0;
                for (Rank r : ranks) {
                    int behind = r.out - one.out + (r.out < one.out ? rules[0] : 0);
                    if (r.at >= from && r.at <= to && behind <= t) {
                        many++;
                    }
                }
                if (one.at >= from && one.at <= to) {
                    most = Math.max(most, many);
                }
            }
            return most;
        }

        /** When a RANK begins, or null. */
        Integer begins(int way, int rank) {
            if (way == 1) {
                int d = drumOf(rank);
                return d < 0 ? null : (Integer) (lag(drums.get(d)[0], ranks.get(rank).at) - drums.get(d)[2]);
            }
            if (rank == 0) {
                return 0;
            }
            int ahead = begins(way, rank - 1);
            if (way == 2 && !bendAheadOf(rank)) {
                return ahead + rules[6];
            }
            return ahead + rules[5] + lag(ranks.get(rank - 1).at, ranks.get(rank).at);
        }
    }

    private static int wrappedBy(long v, int pace) {
        long w = v % pace;
        while (2 * w > pace) {
            w -= pace;
        }
        while (2 * w <= -pace) {
            w += pace;
        }
        return (int) w;
    }

    private All all = new All();
    private All kept = null;
    private final StringBuilder tape = new StringBuilder();
    private final int[][] sheets = new int[4][];
    private final int[] bits = new int[4];
    private final int[] told = new int[7];

    int call(String name, int[] a) {
        try {
            return act(name, a);
        } catch (Finding f) {
            told[f.which]++;
            return -1000001 - f.which;
        }
    }

    private static void beyond(boolean isSo) {
        if (isSo) {
            throw new Finding(0);
        }
    }

    private static void when(boolean isSo, int which) {
        if (isSo) {
            throw new Finding(which);
        }
    }

    private static boolean not(int v, int low, int high) {
        return !(low <= v && v <= high);
    }

    private boolean noRank(int rank) {
        return not(rank, 0, all.ranks.size() - 1);
    }

    private boolean noDrum(int drum) {
        return not(drum, 0, all.drums.size() - 1);
    }

    private int act(String name, int[] a) {
        return switch (name) {
            case "rule" -> rule(a[0], a[1]);
            case "feed" -> feed(a[0], a[1]);
            case "wipe" -> wipe();
            case "column" -> column();
            case "rankOf" -> rankOf(a[0], a[1]);
            case "change" -> change(a[0], a[1], a[2]);
            case "drum" -> drum(a[0], a[1], a[2]);
            case "drumOf" -> drumOf(a[0], a[1]);
            case "carry" -> carry(a[0], a[1]);
            case "bend" -> bend(a[0]);
            case "lag" -> lag(a[0], a[1]);
            case "tread" -> tread(a[0]);
            case "march" -> march(a[0], a[1]);
            case "worst" -> worst(a[0]);
            case "right" -> right(a[0], a[1]);
            case "settles" -> settles();
            case "round" -> round(a[0]);
            case "better" -> better(a[0]);
            case "place" -> place(a[0], a[1]);
            case "both" -> both(a[0], a[1], a[2]);
            case "two" -> two(a[0], a[1], a[2], a[3]);
            case "opposite" -> opposite(a[0]);
            case "edges" -> edges(a[0], a[1], a[2], a[3]);
            case "slip" -> slip(a[0], a[1], a[2], a[3]);
            case "begin" -> begin(a[0], a[1]);
            case "apart" -> apart(a[0]);
            case "bridge" -> bridge(a[0], a[1], a[2], a[3]);
            case "broken" -> broken(a[0], a[1], a[2], a[3]);
            case "seed" -> seed(a[0]);
            case "shake" -> shake(a[0]);
            case "hold" -> hold(a[0], a[1]);
            case "as" -> as(a[0], a[1]);
            case "sheet" -> sheet(a[0], a[1], a[2]);
            case "write" -> write(a[0], a[1], a[2]);
            case "copy" -> copy(a[0], a[1], a[2], a[3], a[4]);
            case "load" -> load(a[0]);
            case "judge" -> judge(a[0]);
            case "image" -> image();
            case "undo" -> undo();
            case "tear" -> tear();
            case "count" -> count(a[0]);
            case "status" -> status(a[0]);
            default -> throw new IllegalArgumentException(name);
        };
    }

    private int rule(int what, int v) {
        int[][] bounds = {{100, 2000}, {500, 2000}, {-200, 200}, {0, 500}, {-999, 999}, {0, 999}, {0, 999}};
        beyond(not(what, 0, 6));
        beyond(not(v, bounds[what][0], bounds[what][1]));
        int was = all.rules[what];
        all.rules[what] = v;
        for (Rank r : all.ranks) {
            r.out = all.wrapped(r.out);
        }
        return was;
    }

    private int feed(int bytes, int n) {
        beyond(not(n, 1, 4));
        when(tape.length() + n > 120, 1);
        String hex = String.format("%08x", bytes);
        for (int i = 8 - 2 * n; i < 8; i += 2) {
            tape.append((char) Integer.parseInt(hex.substring(i, i + 2), 16));
        }
        return tape.length();
    }

    private int wipe() {
        int had = tape.length();
        tape.setLength(0);
        return had;
    }

    private int column() {
        String text = tape.toString();
        tape.setLength(0);
        Matcher m = Pattern.compile("[a-z]+|[0-9]+|[^ ]", Pattern.DOTALL).matcher(text);
        List<Rank> come = new ArrayList<>();
        Rank r = null;
        String wants = "kind";
        int every = 0;
        int many = 0;
        boolean isWhole = false;
        while (m.find()) {
            String token = m.group();
            long v = token.matches("[0-9]+") ? new java.math.BigInteger(token).min(
                    java.math.BigInteger.valueOf(10000)).longValue() : -1;
            boolean isRight;
            switch (wants) {
                case "kind":
                    isRight = Arrays.asList(KINDS).contains(token);
                    r = new Rank();
                    r.kind = Arrays.asList(KINDS).indexOf(token);
                    r.part = 50;
                    r.share = 50;
                    isWhole = false;
                    wants = "many";
                    break;
                case "many":
                    isRight = v >= 1 && v <= 24;
                    many = (int) v;
                    wants = "every";
                    break;
                case "every":
                    isRight = token.equals("every");
                    wants = "feet";
                    break;
                case "feet":
                    isRight = v >= 1 && v <= 200;
                    every = (int) v;
                    wants = "more";
                    isWhole = true;
                    break;
                case "more":
                    if (token.equals(";")) {
                        fallIn(come, r, many, every);
                        isWhole = false;
                        wants = "kind";
                        isRight = true;
                    } else {
                        isRight = token.equals("part") || token.equals("share") || token.equals("drift");
                        isWhole = false;
                        wants = token;
                    }
                    break;
                default:
                    isRight = v >= 0 && v <= (wants.equals("drift") ? 99 : 100);
                    switch (wants) {
                        case "part" -> r.part = (int) v;
                        case "share" -> r.share = (int) v;
                        default -> r.drift = (int) v;
                    }
                    isWhole = true;
                    wants = "more";
                    break;
            }
            if (!isRight) {
                return -1 - m.start();
            }
        }
        if (!isWhole) {
            return -1 - text.length();
        }
        fallIn(come, r, many, every);
        when(all.ranks.size() + come.size() > 24, 1);
        for (Rank one : come) {
            one.at = all.ranks.isEmpty() ? 0 : all.ranks.get(all.ranks.size() - 1).at + one.at;
            all.ranks.add(one);
        }
        return all.ranks.size();
    }

    private static void fallIn(List<Rank> come, Rank r, int many, int every) {
        for (int i = 0; i < many; i++) {
            Rank one = r.again();
            one.at = every;
            come.add(one);
        }
    }

    private int rankOf(int rank, int what) {
        beyond(noRank(rank) || not(what, 0, 7));
        Rank r = all.ranks.get(rank);
        int[] of = {r.kind, r.at, r.part, r.share, r.drift, r.out, all.drumOf(rank), all.turn(rank)};
        return of[what];
    }

    private int change(int rank, int what, int v) {
        beyond(noRank(rank) || not(what, 2, 5));
        beyond(what < 4 && not(v, 0, 100));
        beyond(what == 4 && not(v, -99, 99));
        int was = rankOf(rank, what);
        Rank r = all.ranks.get(rank);
        switch (what) {
            case 2 -> r.part = v;
            case 3 -> r.share = v;
            case 4 -> r.drift = v;
            default -> r.out = all.wrapped(v);
        }
        return was;
    }

    private int drum(int at, int loud, int ahead) {
        beyond(not(at, 0, 4999) || not(loud, 1, 99) || not(ahead, -999, 999));
        when(all.drums.size() == 6, 1);
        all.drums.add(new int[] {at, loud, ahead});
        return all.drums.size() - 1;
    }

    private int drumOf(int drum, int what) {
        beyond(noDrum(drum) || not(what, 0, 2));
        return all.drums.get(drum)[what];
    }

    private int carry(int drum, int at) {
        beyond(noDrum(drum) || not(at, 0, 4999));
        int was = all.drums.get(drum)[0];
        all.drums.get(drum)[0] = at;
        return was;
    }

    private int bend(int at) {
        beyond(not(at, 0, 4999));
        when(all.bends.size() == 6, 1);
        all.bends.add(at);
        return all.bends.size();
    }

    private int lag(int from, int to) {
        beyond(not(from, 0, 4999) || not(to, 0, 4999));
        return all.lag(from, to);
    }

    private int tread(int n) {
        beyond(not(n, 1, 99));
        when(all.ranks.isEmpty(), 3);
        all = all.trodden(n);
        return all.worst();
    }

    private int march(int rank, int n) {
        beyond(noRank(rank) || not(n, 0, 200));
        return all.trodden(n).ranks.get(rank).out;
    }

    private int worst(int n) {
        beyond(not(n, 0, 200));
        when(all.ranks.isEmpty(), 3);
        return all.trodden(n).worst();
    }

    private int right(int n, int m) {
        beyond(not(n, 0, 999) || not(m, 0, 200));
        int set = 0;
        int bit = 1;
        for (int out : all.trodden(m).outs()) {
            set += Math.abs(out) <= n ? bit : 0;
            bit *= 2;
        }
        return set;
    }

    private List<List<Integer>> course(int n) {
        List<List<Integer>> course = new ArrayList<>();
        All a = all;
        for (int i = 0; i <= n; i++) {
            course.add(a.outs());
            a = a.trodden(1);
        }
        return course;
    }

    private int settles() {
        List<List<Integer>> course = course(210);
        for (int n = 0; n <= 200; n++) {
            boolean stays = true;
            for (int later = n; later < course.size(); later++) {
                stays &= course.get(later).equals(course.get(n));
            }
            if (stays) {
                return n;
            }
        }
        throw new Finding(3);
    }

    private int round(int what) {
        beyond(not(what, 0, 1));
        List<List<Integer>> course = course(200);
        for (int n = 0; n <= 200; n++) {
            for (int m = 1; n + m <= 200; m++) {
                if (course.get(n).equals(course.get(n + m))) {
                    return what == 0 ? n : m;
                }
            }
        }
        throw new Finding(3);
    }

    private int better(int n) {
        beyond(not(n, 1, 200));
        int times = 0;
        All a = all;
        for (int i = 0; i < n; i++) {
            All b = a.trodden(1);
            times += b.worst() < a.worst() ? 1 : 0;
            a = b;
        }
        return times;
    }

    private int worstWith(int n, int one, int oneRank, int other, int otherRank) {
        All a = all.again();
        a.drums.get(one)[0] = a.ranks.get(oneRank).at;
        a.drums.get(other)[0] = a.ranks.get(otherRank).at;
        return a.trodden(n).worst();
    }

    private int place(int drum, int n) {
        beyond(noDrum(drum) || not(n, 0, 50));
        when(all.ranks.isEmpty(), 3);
        int best = all.ranks.size() - 1;
        for (int rank = best - 1; rank >= 0; rank--) {
            if (worstWith(n, drum, rank, drum, rank) <= worstWith(n, drum, best, drum, best)) {
                best = rank;
            }
        }
        return best;
    }

    private int both(int one, int other, int n) {
        beyond(noDrum(one) || noDrum(other) || one == other || not(n, 0, 9));
        when(all.ranks.isEmpty(), 3);
        int best = -1;
        int least = 0;
        for (int number = 0; number < 2400; number++) {
            if (!noRank(number / 100) && !noRank(number % 100)) {
                int w = worstWith(n, one, number / 100, other, number % 100);
                if (best < 0 || w < least) {
                    best = number;
                    least = w;
                }
            }
        }
        return best;
    }

    private int two(int one, int other, int n, int what) {
        beyond(noDrum(one) || noDrum(other) || one == other || not(n, 1, 99) || not(what, 0, 1));
        int[] a = all.drums.get(one).clone();
        int[] b = all.drums.get(other).clone();
        for (int i = 0; i < n; i++) {
            int late = all.wrapped(a[2] + all.lag(b[0], a[0]) - b[2]);
            a[2] = a[2] - late / 2;
            late = all.wrapped(b[2] + all.lag(a[0], b[0]) - a[2]);
            b[2] = b[2] - late / 2;
        }
        return what == 0 ? a[2] : b[2];
    }

    private boolean isOpposite(int rank, int pace) {
        int d = all.drumOf(rank);
        int w = wrappedBy(all.lag(all.drums.get(d)[0], all.ranks.get(rank).at), pace);
        return 4 * w >= pace || 4 * w <= -pace;
    }

    private int opposite(int rank) {
        beyond(noRank(rank));
        when(all.drumOf(rank) < 0, 3);
        return isOpposite(rank, all.rules[0]) ? 1 : 0;
    }

    private int edges(int rank, int low, int high, int what) {
        beyond(noRank(rank) || not(low, 100, 2000) || not(high, 100, 2000) || low > high || not(what, 0, 1));
        when(all.drumOf(rank) < 0, 3);
        List<Integer> paces = new ArrayList<>();
        for (int pace = low; pace <= high; pace++) {
            if (isOpposite(rank, pace)) {
                paces.add(pace);
            }
        }
        if (what == 0) {
            return paces.size();
        }
        when(paces.isEmpty(), 3);
        return paces.get(0);
    }

    private int slip(int rank, int v, int n, int what) {
        beyond(noRank(rank) || not(v, -999, 999) || not(n, 0, 99) || not(what, 0, 2));
        All other = all.again();
        other.ranks.get(rank).out = all.wrapped(other.ranks.get(rank).out + v);
        if (what == 2) {
            All a = all;
            for (int k = 0; k <= n; k++) {
                if (a.outs().equals(other.outs())) {
                    return k;
                }
                a = a.trodden(1);
                other = other.trodden(1);
            }
            throw new Finding(3);
        }
        List<Integer> a = all.trodden(n).outs();
        List<Integer> b = other.trodden(n).outs();
        int many = 0;
        int greatest = 0;
        for (int i = 0; i < a.size(); i++) {
            many += a.get(i).equals(b.get(i)) ? 0 : 1;
            greatest = Math.max(greatest, Math.abs(all.wrapped(b.get(i) - a.get(i))));
        }
        return what == 0 ? many : greatest;
    }

    private int begin(int way, int rank) {
        beyond(not(way, 0, 2) || noRank(rank));
        Integer time = all.begins(way, rank);
        when(time == null, 3);
        return time;
    }

    private int apart(int way) {
        beyond(not(way, 0, 2));
        List<Integer> times = new ArrayList<>();
        for (int rank = 0; rank < all.ranks.size(); rank++) {
            Integer time = all.begins(way, rank);
            if (time != null) {
                times.add(time);
            }
        }
        when(times.isEmpty(), 3);
        times.sort(null);
        return times.get(times.size() - 1) - times.get(0);
    }

    private int bridge(int from, int to, int t, int n) {
        beyond(not(from, 0, 4999) || not(to, from, 4999) || not(t, 0, 999) || not(n, 0, 200));
        return all.trodden(n).together(from, to, t);
    }

    private int broken(int from, int to, int t, int most) {
        beyond(not(from, 0, 4999) || not(to, from, 4999) || not(t, 0, 999) || not(most, 0, 24));
        All a = all;
        for (int n = 0; n <= 200; n++) {
            if (a.together(from, to, t) <= most) {
                return n;
            }
            a = a.trodden(1);
        }
        throw new Finding(3);
    }

    private int seed(int v) {
        int was = all.z;
        all.z = v;
        return was;
    }

    private int shake(int n) {
        beyond(not(n, 0, 999));
        for (Rank r : all.ranks) {
            all.z = (int) (all.z * 1103515245L + 12345L);
            long draw = (all.z & 0xffffffffL) >> 8;
            r.out = all.wrapped(r.out - n + draw % (2 * n + 1));
        }
        return all.worst();
    }

    private int hold(int spot, int rank) {
        beyond(not(spot, 0, 9) || rank != -1 && noRank(rank));
        all.spots[spot] = rank;
        return 1;
    }

    private int as(int spot, int kind) {
        beyond(not(spot, 0, 9) || not(kind, 0, 6));
        int rank = all.spots[spot];
        when(rank == -1, 5);
        String family = FAMILY.split(" ")[all.ranks.get(rank).kind];
        when(family.indexOf('0' + kind) < 0, 2);
        return rank;
    }

    private int sheet(int s, int newBits, int n) {
        beyond(not(s, 0, 3) || !List.of(0, 8, 16, 32).contains(newBits));
        when(n < 0, 6);
        beyond(n > 40);
        bits[s] = newBits;
        sheets[s] = newBits == 0 ? null : new int[n];
        return newBits == 0 ? 0 : n;
    }

    private int write(int s, int i, int v) {
        beyond(not(s, 0, 3));
        when(sheets[s] == null, 5);
        beyond(not(i, 0, sheets[s].length - 1));
        sheets[s][i] = v << 32 - bits[s] >> 32 - bits[s];
        return 1;
    }

    private int copy(int s, int from, int t, int to, int n) {
        beyond(not(s, 0, 3) || not(t, 0, 3));
        when(sheets[s] == null || sheets[t] == null, 5);
        when(bits[s] != bits[t], 2);
        beyond(from < 0 || to < 0 || n < 0);
        beyond((long) from + n > sheets[s].length || (long) to + n > sheets[t].length);
        int[] were = sheets[s].clone();
        for (int i = 0; i < n; i++) {
            sheets[t][to + i] = were[from + i];
        }
        return n;
    }

    private int load(int s) {
        beyond(not(s, 0, 3));
        when(sheets[s] == null, 5);
        int came = 0;
        for (Rank r : all.ranks) {
            if (came < sheets[s].length) {
                r.out = all.wrapped(sheets[s][came]);
                came++;
            }
        }
        return came;
    }

    private int judge(int s) {
        beyond(not(s, 0, 3));
        when(sheets[s] == null, 5);
        when(all.ranks.isEmpty(), 3);
        for (int i = 0; i < sheets[s].length; i++) {
            if (sheets[s][i] != all.trodden(i + 1).worst()) {
                return i;
            }
        }
        return -1;
    }

    private int image() {
        kept = all.again();
        return 1;
    }

    private int undo() {
        when(kept == null, 3);
        all = kept.again();
        return all.ranks.size();
    }

    private int tear() {
        int torn = kept == null ? 0 : 1;
        kept = null;
        return torn;
    }

    private int count(int what) {
        beyond(not(what, 0, 5));
        int held = (int) Arrays.stream(all.spots).filter(r -> r >= 0).count();
        int[] counts = {all.ranks.size(), all.drums.size(), all.bends.size(), tape.length(), all.z, held};
        return counts[what];
    }

    private int status(int which) {
        beyond(not(which, -1, 6));
        return which < 0 ? Arrays.stream(told).sum() : told[which];
    }
}
