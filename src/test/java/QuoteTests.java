import java.io.IOException;
import java.nio.file.Files;
import java.nio.file.Path;
import java.util.List;
import java.util.regex.Matcher;
import java.util.regex.Pattern;
import java.util.stream.Stream;

/** Each sentence that a test quotes stands in the document where the test says, and no sentence there is unquoted. */
public final class QuoteTests {
    private static final Pattern QUOTE = Pattern.compile("sentence\\((\\w+), ((?:\"[^\"]*\"[\\s+]*)+)\\)");
    private static final Pattern WORDS = Pattern.compile("\"([^\"]*)\"");
    private static final char QUOTED = '_';
    /** Heads, marks of parts and signatures say nothing that a call could answer; DocumentTests has the face. */
    private static final String[] NO_SENTENCES = {
        "# LastWatered", "## What it is", "## The public face ```java .*? ```", "## Terms", "======== [1-4]", "```(text)?",
        "Ahead of the calls [^:]*: ---- [1-4] [a-z]+\\.", "## Promise \\d+: [\\w ]+ `[^`]*`:", "## Not promised .*$",
    };

    private static int quotes = 0;
    private static int wrong = 0;

    private static void fail(String what) {
        wrong++;
        System.out.println(what);
    }

    public static void main(String[] args) throws IOException {
        String document = Files.readString(Path.of("../shared/DOC.md")).replaceAll("\\s+", " ");
        StringBuilder left = new StringBuilder(document);
        for (Path file : testFiles()) {
            Matcher quote = QUOTE.matcher(Files.readString(file));
            while (quote.find()) {
                quotes++;
                strike(document, left, quote.group(1), wordsOf(quote.group(2)), file);
            }
        }
        noneLeft(left.toString());
        System.out.println(quotes + " quotes, wrong: " + wrong);
        if (wrong > 0) System.exit(1);
    }

    private static List<Path> testFiles() throws IOException {
        try (Stream<Path> files = Files.list(Path.of("src/test/java"))) {
            return files.filter(f -> f.toString().endsWith("Tests.java")).sorted().toList();
        }
    }

    private static String wordsOf(String strings) {
        StringBuilder words = new StringBuilder();
        Matcher one = WORDS.matcher(strings);
        while (one.find()) words.append(one.group(1));
        return words.toString();
    }

    /** Strikes the words out of what is left, wherever they stand in the part of the document that is named. */
    private static void strike(String document, StringBuilder left, String where, String words, Path file) {
        boolean isTerms = where.equals("TERMS");
        int promise = isTerms ? 0 : Integer.parseInt(where);
        int from = isTerms ? 0 : document.indexOf("## Promise " + promise + ":");
        int to = document.indexOf(promise < 26 ? "## Promise " + (promise + 1) + ":" : "## Not promised");
        int found = 0;
        for (int at = document.indexOf(words, from); at >= 0 && at < to; at = document.indexOf(words, at + 1)) {
            for (int i = at; i < at + words.length(); i++) left.setCharAt(i, QUOTED);
            found++;
        }
        if (found == 0) fail(file.getFileName() + ": the document does not say in " + where + ": " + words);
    }

    private static void noneLeft(String left) {
        String rest = left;
        for (String pattern : NO_SENTENCES) rest = rest.replaceAll(pattern, String.valueOf(QUOTED));
        for (String part : rest.split(QUOTED + "+")) {
            if (part.chars().anyMatch(Character::isLetterOrDigit)) fail("no test quotes: " + part.trim());
        }
    }
}
