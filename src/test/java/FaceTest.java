import java.io.IOException;
import java.lang.reflect.Constructor;
import java.lang.reflect.Field;
import java.lang.reflect.Method;
import java.lang.reflect.Modifier;
import java.nio.file.Files;
import java.nio.file.Path;
import java.util.ArrayList;
import java.util.Arrays;
import java.util.HashSet;
import java.util.List;
import java.util.Set;
import java.util.TreeSet;
import java.util.regex.Matcher;
import java.util.regex.Pattern;

/**
 * The public face and its headings, as the document tells them ahead of the promises, and those rules of
 * LANGUAGE.md that can be seen from outside or in the source.
 */
public final class FaceTest {
    private static final Due DUE = new Due();
    private static final Path SOURCE = Path.of("src/main/java/LongColumn.java");
    private static final Path DOCUMENT = Path.of("../shared/DOC.md");
    private static final int PROMISES = 43;
    private static final List<Class<?>> CONSTANTS = List.of(int.class, long.class, boolean.class, char.class,
            String.class, int[].class, long[].class, char[].class, byte[].class);

    public static void main(String[] args) throws IOException {
        String document = Files.readString(DOCUMENT);
        List<String> source = Files.readAllLines(SOURCE);
        List<String> face = faceOf(document);
        DUE.is("members of the face, one for each promise", face.size(), PROMISES);
        members(face);
        isWrittenAsTold(face, source);
        headings(document, source);
        classesInside();
        rulesOfMembers(LongColumn.class, face);
        for (Class<?> inside : LongColumn.class.getDeclaredClasses()) {
            rulesOfMembers(inside, face);
        }
        rulesOfLines(source);
        divisors(source);
        DUE.end();
    }

    /** Constructor and acts as the document writes them, in its order. */
    private static List<String> faceOf(String document) {
        List<String> face = new ArrayList<>();
        Matcher member = Pattern.compile("(?m)^    (public .*\\));$").matcher(document);
        while (member.find()) {
            face.add(member.group(1));
        }
        return face;
    }

    private static String nameOf(String member) {
        return member.replaceAll("\\(.*", "").replaceAll(".* ", "");
    }

    private static void members(List<String> face) {
        DUE.holds("the class is public and final",
                LongColumn.class.getModifiers() == (Modifier.PUBLIC | Modifier.FINAL));
        DUE.holds("it has no package", LongColumn.class.getPackageName().isEmpty());
        Set<String> has = new TreeSet<>();
        for (Method m : LongColumn.class.getDeclaredMethods()) {
            if (!Modifier.isPrivate(m.getModifiers())) {
                has.add(m.getName() + m.getParameterCount());
                DUE.holds(m + " is public, and no more", m.getModifiers() == Modifier.PUBLIC);
                DUE.holds(m + " answers an int", m.getReturnType() == int.class);
                DUE.holds(m + " takes ints",
                        Arrays.stream(m.getParameterTypes()).allMatch(t -> t == int.class));
            }
        }
        Set<String> due = new TreeSet<>();
        for (String member : face) {
            if (!nameOf(member).equals("LongColumn")) {
                due.add(nameOf(member) + (member.split("int ").length - 2));
            }
        }
        DUE.holds("the acts are " + due + ", not " + has, has.equals(due));
        Constructor<?>[] made = LongColumn.class.getDeclaredConstructors();
        DUE.holds("one constructor", made.length == 1 && made[0].getParameterCount() == 0
                && Modifier.isPublic(made[0].getModifiers()));
        for (Field f : LongColumn.class.getDeclaredFields()) {
            DUE.holds(f + " is private", Modifier.isPrivate(f.getModifiers()));
        }
    }

    /** In the document's order, with the names that it gives to what is told. */
    private static void isWrittenAsTold(List<String> face, List<String> source) {
        List<String> written = new ArrayList<>();
        for (String line : source) {
            if (line.matches(" {4}public (?!final).*\\{")) {
                written.add(line.trim().replace(" {", ""));
            }
        }
        DUE.holds("the face is " + face + ", not " + written, written.equals(face));
    }

    private static void headings(String document, List<String> source) {
        Matcher told = Pattern.compile("(?m)^Ahead of the calls (.*) the interface says: (.*)\\.$").matcher(document);
        int acts = 0;
        while (told.find()) {
            for (String act : told.group(1).replace("`", "").split(", ")) {
                acts++;
                DUE.holds(act + " stands below " + told.group(2), headingOf(act, source).equals(told.group(2)));
            }
        }
        DUE.is("acts below a heading", acts, PROMISES - 1);
    }

    private static String headingOf(String act, List<String> source) {
        String heading = "";
        for (String line : source) {
            if (line.startsWith("    // ----")) {
                heading = line.trim().substring(3);
            }
            if (line.startsWith("    public int " + act + "(")) {
                return heading;
            }
        }
        return "nothing";
    }

    private static void classesInside() {
        Class<?>[] inside = LongColumn.class.getDeclaredClasses();
        DUE.holds("not too many classes", inside.length < 12);
        for (Class<?> c : inside) {
            DUE.holds(c + " is static", Modifier.isStatic(c.getModifiers()));
            DUE.holds(c + " is hidden", !Modifier.isPublic(c.getModifiers()) && !Modifier.isProtected(c.getModifiers()));
            DUE.holds(c + " has none inside", c.getDeclaredClasses().length == 0);
        }
    }

    private static void rulesOfMembers(Class<?> c, List<String> face) {
        Set<String> acts = new HashSet<>();
        for (String member : face) {
            acts.add(nameOf(member));
        }
        for (Method m : c.getDeclaredMethods()) {
            DUE.holds(m + " has a name of its own",
                    Modifier.isPublic(m.getModifiers()) || !acts.contains(m.getName()));
            DUE.holds(m + " has few parameters", m.getParameterCount() <= 7);
        }
        int own = 0;
        for (Field f : c.getDeclaredFields()) {
            if (Modifier.isStatic(f.getModifiers())) {
                DUE.holds(f + " is a constant",
                        Modifier.isFinal(f.getModifiers()) && CONSTANTS.contains(f.getType()));
            } else {
                own++;
            }
        }
        DUE.holds(c + " has some twenty fields at most", own <= 20);
    }

    private static String codeOf(String line) {
        return line.replaceAll("//.*|^ *(/\\*)?\\*.*|\"[^\"]*\"", "").trim();
    }

    private static boolean beginsMethod(String line) {
        return line.matches(" {4}( {4})?(private |public |static |int |boolean |void |String )+\\w+\\(.*\\{");
    }

    private static void rulesOfLines(List<String> source) {
        String indent = "";
        int length = 0;
        for (String line : source) {
            String code = codeOf(line);
            DUE.holds("no such word: " + line, !code.matches(
                    ".*\\b(throw|throws|try|catch|synchronized|assert|Integer|Long|Object|System(?!\\.arraycopy))\\b.*"));
            DUE.holds("no lambda, no method reference: " + line, !code.contains("->") && !code.contains("::"));
            DUE.holds("only this import: " + line,
                    !code.startsWith("import") || code.equals("import java.util.Arrays;"));
            DUE.holds("made with its owner alone: " + line, !code.matches(".*\\bnew\\b.*")
                    || code.matches("(private )?(final )?\\S+ \\w+ = new .*") && !line.startsWith("            ")
                    || code.equals("sheets[s] = new Sheet();"));
            if (beginsMethod(line)) {
                indent = line.substring(0, line.length() - line.stripLeading().length());
                length = 0;
            }
            length++;
            DUE.holds("a method is short: " + line, !line.equals(indent + "}") || length <= 60);
            if (line.equals(indent + "}")) {
                indent = "";
            }
        }
    }

    /** A divisor is a number that is written out, or is looked at in the method that divides by it. */
    private static void divisors(List<String> source) {
        Pattern dividing = Pattern.compile("[/%]=? *(\\([^()]*\\)|[\\w.]+(\\[\\w+\\])?)");
        StringBuilder method = new StringBuilder();
        int found = 0;
        for (String line : source) {
            if (beginsMethod(line)) {
                method.setLength(0);
            }
            String code = codeOf(line);
            method.append(code).append('\n');
            DUE.holds("no hidden division: " + line, !code.matches(".*\\b(floor|ceil)(Div|Mod)\\b.*"));
            Matcher division = dividing.matcher(code);
            while (division.find()) {
                found++;
                DUE.holds("a divisor is looked at first: " + line, isLookedAt(division.group(1), method));
            }
        }
        DUE.holds("there are divisions", found > 0);
    }

    private static boolean isLookedAt(String divisor, CharSequence method) {
        if (divisor.matches("[1-9][0-9]*")) {
            return true;
        }
        if (divisor.equals("(2 * n + 1)")) {
            return method.toString().contains("isWithin(n, 0, ");
        }
        return method.toString().contains(divisor + " > 0") || method.toString().contains(divisor + " < 1");
    }
}
