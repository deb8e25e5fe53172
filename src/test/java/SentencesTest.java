import java.io.IOException;
import java.lang.reflect.Method;
import java.nio.file.Files;
import java.nio.file.Path;
import java.util.ArrayList;
import java.util.Arrays;
import java.util.List;
import java.util.regex.Matcher;
import java.util.regex.Pattern;

/** Holds the tests to the document: each promise has its own, and no word of the document is without one. */
public final class SentencesTest {
    private static final Due DUE = new Due();
    private static final Path DOCUMENT = Path.of("../shared/DOC.md");
    private static final Path TESTS = Path.of("src/test/java");
    private static final int PROMISES = 43;
    /** What is left of a promise when all that tests quote is taken away: signs between sentences. */
    private static final Pattern LEFT = Pattern.compile("[^a-zA-Z0-9]*");

    public static void main(String[] args) throws Exception {
        String document = Files.readString(DOCUMENT);
        boolean[] isQuoted = new boolean[document.length()];
        for (int promise = 1; promise <= PROMISES; promise++) {
            readPromise(promise, document, isQuoted);
        }
        termsAreQuoted(document, isQuoted);
        DUE.end();
    }

    private static void readPromise(int promise, String document, boolean[] isQuoted) throws Exception {
        Matcher heading = Pattern.compile("## Promise " + promise + ": (.+)\n\n`[^`]*`: (.*)\n").matcher(document);
        DUE.holds("promise " + promise + " is in the document", heading.find());
        List<Method> tests = testsOf(promise, heading.group(1));
        int from = heading.start(2);
        int to = heading.end(2);
        for (Method test : tests) {
            for (String words : test.getAnnotation(Sentence.class).value()) {
                int found = markAll(document, words, from, to, isQuoted)
                        + markAll(document, words, document.indexOf("## Terms"), document.indexOf("## Promise 1:"), isQuoted);
                DUE.holds(test + " quotes the promise or the terms: " + words, found > 0);
            }
        }
        String left = unquoted(document, from, to, isQuoted);
        DUE.holds("promise " + promise + " is tested, also: " + left, LEFT.matcher(left).matches());
    }

    private static List<Method> testsOf(int promise, String act) throws IOException, ClassNotFoundException {
        String name = "Promise" + (promise < 10 ? "0" : "") + promise;
        List<Path> files = new ArrayList<>();
        try (var all = Files.list(TESTS)) {
            all.filter(f -> f.getFileName().toString().startsWith(name)).forEach(files::add);
        }
        DUE.is("files of tests of promise " + promise, files.size(), 1);
        String file = files.get(0).getFileName().toString();
        String wanted = name + (promise == 1 ? "NewObject" : Character.toUpperCase(act.charAt(0)) + act.substring(1)) + "Test.java";
        DUE.holds(file + " is named after its promise, " + wanted, file.equals(wanted));
        return Promise.testsOf(Class.forName(file.replace(".java", "")));
    }

    private static int markAll(String document, String words, int from, int to, boolean[] isQuoted) {
        int found = 0;
        for (int at = document.indexOf(words, from); at >= 0 && at + words.length() <= to; at = document.indexOf(words, at + 1)) {
            Arrays.fill(isQuoted, at, at + words.length(), true);
            found++;
        }
        return found;
    }

    private static String unquoted(String document, int from, int to, boolean[] isQuoted) {
        StringBuilder left = new StringBuilder();
        for (int at = from; at < to; at++) {
            if (!isQuoted[at]) {
                left.append(document.charAt(at));
            } else if (left.length() > 0 && left.charAt(left.length() - 1) != '|') {
                left.append('|');
            }
        }
        return left.toString();
    }

    /** The terms up to where the interface's headings are told. */
    private static void termsAreQuoted(String document, boolean[] isQuoted) {
        int from = document.indexOf("## Terms");
        int to = document.indexOf("Ahead of the calls `rule`");
        String left = unquoted(document, from, to, isQuoted).replaceAll("## Terms|```text|```|(^|\n)[1-3]\\. ", "");
        DUE.holds("the terms are tested, also: " + left, LEFT.matcher(left).matches());
    }
}
