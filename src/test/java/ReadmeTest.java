import java.io.IOException;
import java.io.StringWriter;
import java.lang.reflect.Method;
import java.lang.reflect.Modifier;
import java.net.URL;
import java.net.URLClassLoader;
import java.nio.file.Files;
import java.nio.file.Path;
import java.util.ArrayList;
import java.util.Comparator;
import java.util.List;
import java.util.regex.Matcher;
import java.util.regex.Pattern;
import javax.tools.JavaCompiler;
import javax.tools.ToolProvider;

/** Holds README.md to the class and to the tests as they stand: what it shows is compiled and run. */
public final class ReadmeTest {
    private static final Due DUE = new Due();
    private static final Path README = Path.of("README.md");
    private static final Path TESTS = Path.of("src/test/java");
    /** A call that is shown, its answer, and what the answer means. */
    private static final Pattern SHOWN = Pattern.compile("(x\\.(\\w+)\\(.*\\)); +// (-?\\d+): \\S.*");
    private static final Pattern SET_UP = Pattern.compile("LongColumn x = new LongColumn\\(\\);|put\\(x, \"[^\"]*\"\\);");
    /** "An object is used for at most 512 calls". */
    private static final int CALLS = 512;

    public static void main(String[] args) throws Exception {
        String readme = Files.readString(README);
        String helpers = "";
        List<String> shown = new ArrayList<>();
        for (String block : blocks(readme, "java")) {
            if (block.startsWith("@Sentence")) {
                isOneOfTheTests(block);
            } else if (block.startsWith("static ")) {
                helpers += block;
            } else {
                shown.addAll(block.lines().toList());
            }
        }
        actsAreShown(shown);
        callsAnswerAsShown(helpers, shown);
        filesAreThere(readme);
        DUE.end();
    }

    private static List<String> blocks(String readme, String language) {
        List<String> blocks = new ArrayList<>();
        Matcher block = Pattern.compile("(?ms)^```" + language + "\n(.*?)^```$").matcher(readme);
        while (block.find()) {
            blocks.add(block.group(1));
        }
        return blocks;
    }

    private static void actsAreShown(List<String> shown) {
        List<String> acts = new ArrayList<>();
        for (String line : shown) {
            Matcher call = SHOWN.matcher(line);
            boolean isCall = call.matches();
            DUE.holds("a call with its answer, or what sets up: " + line, isCall || SET_UP.matcher(line).matches());
            acts.add(isCall ? call.group(2) : "");
        }
        for (Method act : LongColumn.class.getDeclaredMethods()) {
            if (Modifier.isPublic(act.getModifiers())) {
                DUE.holds(act.getName() + " is shown", acts.contains(act.getName()));
            }
        }
        DUE.holds("no more calls than an object is good for", shown.size() <= CALLS);
    }

    private static void callsAnswerAsShown(String helpers, List<String> shown) throws Exception {
        StringBuilder source = new StringBuilder("public final class Shown {\n").append(helpers)
                .append("public static void run(java.util.List<Integer> answers) {\n");
        List<Matcher> calls = new ArrayList<>();
        for (String line : shown) {
            Matcher call = SHOWN.matcher(line);
            if (call.matches()) {
                calls.add(call);
                source.append("answers.add(").append(call.group(1)).append(");\n");
            } else {
                source.append(line).append('\n');
            }
        }
        List<Integer> answers = answersOf(source.append("}\n}\n").toString());
        DUE.is("answers", answers.size(), calls.size());
        for (int i = 0; i < answers.size() && i < calls.size(); i++) {
            DUE.is(calls.get(i).group(1), answers.get(i), Integer.parseInt(calls.get(i).group(3)));
        }
    }

    private static List<Integer> answersOf(String source) throws Exception {
        Path folder = Files.createTempDirectory("readme");
        List<Integer> answers = new ArrayList<>();
        try {
            Path file = Files.writeString(folder.resolve("Shown.java"), source);
            if (compiles(file, folder)) {
                try (URLClassLoader loader = new URLClassLoader(new URL[] {folder.toUri().toURL()})) {
                    loader.loadClass("Shown").getMethod("run", List.class).invoke(null, answers);
                }
            }
        } finally {
            remove(folder);
        }
        return answers;
    }

    private static boolean compiles(Path file, Path folder) throws IOException {
        JavaCompiler javac = ToolProvider.getSystemJavaCompiler();
        StringWriter said = new StringWriter();
        boolean done = javac.getTask(said, null, null,
                List.of("--release", "17", "-cp", System.getProperty("java.class.path"), "-d", folder.toString()), null,
                javac.getStandardFileManager(null, null, null).getJavaFileObjects(file)).call();
        DUE.holds("what is shown compiles " + said, done);
        return done;
    }

    private static void remove(Path folder) throws IOException {
        try (var all = Files.walk(folder)) {
            for (Path path : all.sorted(Comparator.reverseOrder()).toList()) {
                Files.delete(path);
            }
        }
    }

    /** The test that is shown stands so in one of the files, but for its indent. */
    private static void isOneOfTheTests(String block) throws IOException {
        boolean found = false;
        try (var all = Files.list(TESTS)) {
            for (Path file : all.toList()) {
                found |= Files.readString(file).replaceAll("(?m)^    ", "").contains(block);
            }
        }
        DUE.holds("a test of the project: " + block, found);
    }

    /** Each file of tests is named, those of the promises by the first and the last one; none that isn't there is. */
    private static void filesAreThere(String readme) throws IOException {
        try (var all = Files.list(TESTS)) {
            for (Path file : all.toList()) {
                String name = file.getFileName().toString().replace(".java", "");
                DUE.holds(name + " is named", name.matches("Promise\\d\\d\\w+Test") || readme.contains("`" + name + "`"));
            }
        }
        Matcher name = Pattern.compile("\\b\\w+Test\\b").matcher(readme);
        while (name.find()) {
            DUE.holds(name.group() + " is there", Files.exists(TESTS.resolve(name.group() + ".java")));
        }
        Matcher path = Pattern.compile("(?<![\\w/])(\\.ci|src|\\.\\./shared)/[\\w/.]*\\w").matcher(readme);
        while (path.find()) {
            DUE.holds(path.group() + " is there", Files.exists(Path.of(path.group())));
        }
        DUE.holds(".ci/run can be run", Files.isExecutable(Path.of(".ci/run")));
        DUE.holds("how all tests are run is told", blocks(readme, "sh").contains(".ci/run\n"));
    }
}
