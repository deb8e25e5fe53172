import java.lang.reflect.InvocationTargetException;
import java.lang.reflect.Method;
import java.lang.reflect.Modifier;
import java.util.ArrayList;
import java.util.Arrays;
import java.util.Comparator;
import java.util.List;
import java.util.Random;

/** All promises: random runs of calls, each answer held against the model's. */
public final class ModelTest {
    private static final int RUNS = 500;
    /** "An object is used for at most 512 calls after it has been made; what later calls answer is free." */
    private static final int CALLS = 512;
    private static final int[] WILD = {Integer.MIN_VALUE, -1000001, -1, 0, 1, 5000, Integer.MAX_VALUE};
    private static final String[] KINDS = {"keep", "ear", "eye", "mix", "feet", "told", "free"};

    private final Random random;
    private final LongColumn column = new LongColumn();
    private final Model model = new Model();
    private final List<String> told = new ArrayList<>();
    private int calls = 0;

    private ModelTest(long seed) {
        random = new Random(seed);
    }

    public static void main(String[] args) throws Exception {
        List<Method> acts = new ArrayList<>();
        for (Method m : LongColumn.class.getDeclaredMethods()) {
            if (Modifier.isPublic(m.getModifiers())) {
                acts.add(m);
            }
        }
        acts.sort(Comparator.comparing(Method::getName));
        int runs = args.length > 0 ? Integer.parseInt(args[0]) : RUNS;
        int first = args.length > 1 ? Integer.parseInt(args[1]) : 0;
        int wrong = 0;
        for (int run = first; run < first + runs && wrong < 5; run++) {
            if (!new ModelTest(run).runsAsDue(run, acts)) {
                wrong++;
            }
        }
        System.out.println(runs + " random runs, " + wrong + " not as due");
        if (wrong != 0) {
            System.exit(1);
        }
    }

    private boolean runsAsDue(int run, List<Method> acts) throws Exception {
        boolean asDue = fillAtFirst();
        while (asDue && calls < CALLS) {
            Method act = acts.get(random.nextInt(acts.size()));
            String name = act.getName();
            if (name.equals("column")) {
                asDue = feedText(random.nextInt(3) == 0 ? spoilt(text()) : text()) && answers("column");
            } else if (name.equals("undo") && random.nextInt(3) > 0 || name.equals("both") && random.nextInt(4) > 0) {
                continue;
            } else {
                asDue = answers(name, arguments(name, act.getParameterCount()));
            }
        }
        if (!asDue) {
            System.out.println("run " + run + ", the last of " + calls + ":");
            told.subList(Math.max(0, told.size() - 25), told.size()).forEach(System.out::println);
        }
        return asDue;
    }

    /** Most runs begin with a column and drums, for without them most acts have little to tell. */
    private boolean fillAtFirst() throws Exception {
        boolean asDue = true;
        if (random.nextInt(10) > 0) {
            asDue = feedText(text()) && answers("column");
        }
        for (int i = random.nextInt(4); i > 0 && asDue; i--) {
            asDue = answers("drum", random.nextInt(1500), 20 + random.nextInt(80), random.nextInt(400) - 200);
        }
        return asDue;
    }

    private boolean answers(String name, int... a) throws Exception {
        if (calls == CALLS) {
            return true;
        }
        calls++;
        Class<?>[] types = new Class<?>[a.length];
        Arrays.fill(types, int.class);
        Object[] arguments = Arrays.stream(a).boxed().toArray();
        String call = name + Arrays.toString(a);
        int got;
        try {
            got = (Integer) LongColumn.class.getMethod(name, types).invoke(column, arguments);
        } catch (InvocationTargetException e) {
            told.add(call + " threw " + e.getCause());
            return false;
        }
        int want = model.call(name, a);
        told.add(call + " answered " + got + (got == want ? "" : ", due is " + want));
        return got == want;
    }

    private boolean feedText(String text) throws Exception {
        boolean asDue = answers("wipe");
        for (int i = 0; i < text.length() && asDue;) {
            int n = Math.min(text.length() - i, 1 + random.nextInt(4));
            int bytes = random.nextInt();
            for (int k = 0; k < n; k++) {
                bytes = bytes << 8 | text.charAt(i + k);
            }
            asDue = answers("feed", bytes, n);
            i += n;
        }
        return asDue;
    }

    private String text() {
        StringBuilder text = new StringBuilder();
        int groups = 1 + random.nextInt(5);
        for (int g = 0; g < groups; g++) {
            text.append(g > 0 ? blank() + ";" + blank() : blank());
            text.append(KINDS[random.nextInt(7)]).append(blank()).append(1 + random.nextInt(random.nextInt(8) == 0 ? 24 : 5));
            text.append(blank()).append("every").append(blank()).append(1 + random.nextInt(random.nextBoolean() ? 40 : 200));
            for (int i = random.nextInt(3); i > 0; i--) {
                String[] words = {"part", "share", "drift"};
                text.append(blank()).append(words[random.nextInt(3)]).append(blank()).append(random.nextInt(100));
            }
        }
        return text.append(random.nextInt(4) == 0 ? " " : "").toString();
    }

    private String blank() {
        return new String[] {"", " ", " ", "  "}[random.nextInt(4)];
    }

    private String spoilt(String text) {
        int at = random.nextInt(text.length());
        return switch (random.nextInt(4)) {
            case 0 -> text.substring(0, at);
            case 1 -> text.substring(0, at) + text.substring(at + 1);
            case 2 -> text.substring(0, at) + (char) random.nextInt(256) + text.substring(at);
            default -> text.substring(0, at) + "0123456789;;  abcdefgh".charAt(random.nextInt(22)) + text.substring(at);
        };
    }

    private int[] arguments(String name, int n) {
        int[] a = new int[n];
        for (int i = 0; i < n; i++) {
            a[i] = random.nextInt(60) == 0 ? WILD[random.nextInt(WILD.length)] : argument(name, i);
        }
        if (name.equals("bridge") || name.equals("broken") || name.equals("edges")) {
            int low = name.equals("edges") ? 1 : 0;
            if (a[low] > a[low + 1] && random.nextInt(20) > 0) {
                int other = a[low];
                a[low] = a[low + 1];
                a[low + 1] = other;
            }
        }
        if (name.equals("rule") && a[0] >= 0 && a[0] < 7) {
            int[][] bounds = {{99, 2001}, {499, 2001}, {-201, 201}, {-1, 501}, {-1000, 1000}, {-1, 1000}, {-1, 1000}};
            a[1] = any(bounds[a[0]][0], bounds[a[0]][1]);
        }
        return a;
    }

    private int rank() {
        return random.nextInt(15) == 0 ? any(-1, 25) : random.nextInt(Math.max(1, model.call("count", new int[] {0})));
    }

    private int drum() {
        return random.nextInt(15) == 0 ? any(-1, 6) : random.nextInt(Math.max(1, model.call("count", new int[] {1})));
    }

    private int any(int low, int high) {
        int kind = random.nextInt(20);
        return kind == 0 ? low : kind == 1 ? high : low + random.nextInt(high - low + 1);
    }

    private int argument(String name, int i) {
        return switch (name + i) {
            case "rule0" -> any(0, 6);
            case "feed0", "seed0" -> random.nextInt();
            case "feed1" -> any(0, 5);
            case "rankOf1" -> any(0, 8);
            case "change1" -> any(1, 6);
            case "change2" -> random.nextInt(4) == 0 ? random.nextInt() : any(-100, 101);
            case "drum0", "carry1" -> any(0, random.nextBoolean() ? 500 : 5000);
            case "drum1" -> any(0, 100);
            case "drum2" -> any(-1000, 1000);
            case "bend0" -> any(0, 600);
            case "lag0", "lag1" -> any(-1, 5000);
            case "tread0" -> any(0, random.nextBoolean() ? 4 : 100);
            case "march1", "worst0", "right1", "better0", "bridge3" -> any(-1, random.nextBoolean() ? 8 : 201);
            case "right0" -> any(-1, random.nextBoolean() ? 100 : 1000);
            case "place1" -> any(-1, random.nextBoolean() ? 5 : 51);
            case "both2" -> any(-1, 10);
            case "two2" -> any(0, random.nextBoolean() ? 5 : 100);
            case "edges1", "edges2" -> any(99, 2001);
            case "slip1", "shake0" -> any(-999, 1000);
            case "slip2" -> any(-1, random.nextBoolean() ? 8 : 100);
            case "slip3" -> any(0, 3);
            case "begin0", "apart0" -> any(-1, 3);
            case "bridge0", "bridge1", "broken0", "broken1" -> any(0, random.nextInt(3) > 0 ? 500 : 5000);
            case "bridge2", "broken2" -> any(-1, random.nextBoolean() ? 60 : 1000);
            case "broken3" -> any(-1, random.nextBoolean() ? 6 : 25);
            case "hold0", "as0" -> any(-1, random.nextBoolean() ? 3 : 10);
            case "as1" -> any(-1, 7);
            case "sheet0", "write0", "copy0", "copy2", "load0", "judge0" -> random.nextInt(20) == 0 ? any(-1, 4) : any(0, 1);
            case "sheet1" -> new int[] {0, 8, 16, 16, 32, 32, 7}[random.nextInt(7)];
            case "sheet2" -> any(-1, random.nextBoolean() ? 4 : 41);
            case "write1", "copy1", "copy3", "copy4" -> any(-1, random.nextBoolean() ? 4 : 41);
            case "write2" -> writable();
            case "status0" -> any(-2, 7);
            case "count0" -> any(-1, 6);
            case "round0", "two3", "edges3" -> any(-1, 2);
            case "drumOf1" -> any(-1, 3);
            default -> name.equals("drumOf") || name.equals("carry") || name.equals("place") || name.equals("both")
                    || name.equals("two") ? drum() : rank();
        };
    }

    /** Now and then what judge() will find right. */
    private int writable() {
        // Asked of the model alone, so it must not answer a finding there.
        if (random.nextBoolean() && model.call("count", new int[] {0}) > 0) {
            return model.call("worst", new int[] {1 + random.nextInt(3)});
        }
        return random.nextInt() >> random.nextInt(32);
    }
}
