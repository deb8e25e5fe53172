import java.io.IOException;
import java.lang.reflect.Constructor;
import java.lang.reflect.Field;
import java.lang.reflect.Method;
import java.lang.reflect.Modifier;
import java.nio.file.Files;
import java.nio.file.Path;
import java.util.Arrays;
import java.util.HashSet;
import java.util.List;
import java.util.Set;
import java.util.TreeSet;

/** The public face, and those rules of LANGUAGE.md that can be seen from outside or in the source. */
public final class FaceTest {
    private static final Due DUE = new Due();
    private static final Path SOURCE = Path.of("src/main/java/LongColumn.java");
    /** Each act, and how many ints it takes. */
    private static final String FACE = "rule2 feed2 wipe0 column0 rankOf2 change3 drum3 drumOf2 carry2 bend1 lag2 "
            + "tread1 march2 worst1 right2 settles0 round1 better1 place2 both3 two4 opposite1 edges4 "
            + "slip4 begin2 apart1 bridge4 broken4 seed1 shake1 hold2 as2 sheet3 write3 copy5 load1 judge1 "
            + "image0 undo0 tear0 count1 status1";
    private static final List<Class<?>> CONSTANTS = List.of(int.class, long.class, boolean.class, char.class,
            String.class, int[].class, long[].class, char[].class, byte[].class);

    public static void main(String[] args) throws IOException {
        face();
        classesInside();
        members(LongColumn.class);
        for (Class<?> inside : LongColumn.class.getDeclaredClasses()) {
            members(inside);
        }
        source();
        DUE.end();
    }

    private static void face() {
        DUE.holds("the class is public and final",
                LongColumn.class.getModifiers() == (Modifier.PUBLIC | Modifier.FINAL));
        DUE.holds("it has no package", LongColumn.class.getPackageName().isEmpty());
        Set<String> has = new TreeSet<>();
        for (Method m : LongColumn.class.getDeclaredMethods()) {
            if (!Modifier.isPrivate(m.getModifiers())) {
                has.add(m.getName() + m.getParameterCount());
                DUE.holds(m + " is public, and no more", m.getModifiers() == Modifier.PUBLIC);
                DUE.holds(m + " answers an int", m.getReturnType() == int.class);
                DUE.holds(m + " takes ints",
                        Arrays.stream(m.getParameterTypes()).allMatch(t -> t == int.class));
            }
        }
        Set<String> due = new TreeSet<>(Arrays.asList(FACE.split(" ")));
        DUE.holds("the acts are " + due + ", not " + has, has.equals(due));
        Constructor<?>[] made = LongColumn.class.getDeclaredConstructors();
        DUE.holds("one constructor", made.length == 1 && made[0].getParameterCount() == 0
                && Modifier.isPublic(made[0].getModifiers()));
        for (Field f : LongColumn.class.getDeclaredFields()) {
            DUE.holds(f + " is private", Modifier.isPrivate(f.getModifiers()));
        }
    }

    private static void classesInside() {
        Class<?>[] inside = LongColumn.class.getDeclaredClasses();
        DUE.holds("not too many classes", inside.length < 12);
        for (Class<?> c : inside) {
            DUE.holds(c + " is static", Modifier.isStatic(c.getModifiers()));
            DUE.holds(c + " is hidden", !Modifier.isPublic(c.getModifiers()) && !Modifier.isProtected(c.getModifiers()));
            DUE.holds(c + " has none inside", c.getDeclaredClasses().length == 0);
        }
    }

    private static void members(Class<?> c) {
        Set<String> acts = new HashSet<>(Arrays.asList(FACE.replaceAll("[0-9]", "").split(" ")));
        for (Method m : c.getDeclaredMethods()) {
            DUE.holds(m + " has a name of its own",
                    Modifier.isPublic(m.getModifiers()) || !acts.contains(m.getName()));
            DUE.holds(m + " has few parameters", m.getParameterCount() <= 7);
        }
        int own = 0;
        for (Field f : c.getDeclaredFields()) {
            if (Modifier.isStatic(f.getModifiers())) {
                DUE.holds(f + " is a constant",
                        Modifier.isFinal(f.getModifiers()) && CONSTANTS.contains(f.getType()));
            } else {
                own++;
            }
        }
        DUE.holds(c + " has some twenty fields at most", own <= 20);
    }

    private static void source() throws IOException {
        String indent = "";
        int length = 0;
        for (String line : Files.readAllLines(SOURCE)) {
            String code = line.replaceAll("//.*|^ *(/\\*)?\\*.*|\"[^\"]*\"", "").trim();
            DUE.holds("no such word: " + line, !code.matches(
                    ".*\\b(throw|throws|try|catch|synchronized|assert|Integer|Long|Object|System(?!\\.arraycopy))\\b.*"));
            DUE.holds("no lambda, no method reference: " + line, !code.contains("->") && !code.contains("::"));
            DUE.holds("only this import: " + line,
                    !code.startsWith("import") || code.equals("import java.util.Arrays;"));
            DUE.holds("made with its owner alone: " + line, !code.matches(".*\\bnew\\b.*")
                    || code.matches("(private )?(final )?\\S+ \\w+ = new .*") && !line.startsWith("            ")
                    || code.equals("sheets[s] = new Sheet();"));
            if (line.matches(" {4}( {4})?(private |public |static |int |boolean |void |String )+\\w+\\(.*\\{")) {
                indent = line.substring(0, line.length() - line.stripLeading().length());
                length = 0;
            }
            length++;
            DUE.holds("a method is short: " + line, !line.equals(indent + "}") || length <= 60);
            if (line.equals(indent + "}")) {
                indent = "";
            }
        }
    }
}
