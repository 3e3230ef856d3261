import java.io.IOException;
import java.nio.file.Files;
import java.nio.file.Path;
import java.util.HashMap;
import java.util.List;
import java.util.Map;
import java.util.regex.Matcher;
import java.util.regex.Pattern;
import java.util.stream.Collectors;
import java.util.stream.Stream;

/** Each word of the document must be quoted, by Edge.says(), in a test that is named by its promise. Run it at the root. */
public final class DocumentTest {
    private static final int PROMISES = 33;
    // headings, fences, numbers of parts; the face, which promise01_theFaceIsAsTold reads whole; what is not promised
    private static final String[] NO_SENTENCES = {"(?m)^#.*$", "(?m)^```\\w*$", "======== \\d", "(?m)^    public int .*$",
        "`(int )?\\w+\\([^`]*\\)`:", "(?s)## Not promised.*"};
    private static final String QUOTED = "\"((?:[^\"\\\\]|\\\\.)*)\"";
    private static final Pattern TEXT = Pattern.compile(QUOTED);
    private static final Pattern CONSTANT = Pattern.compile("static final String (\\w+) = (" + QUOTED + ");");
    private static final Pattern TEST = Pattern.compile("static void promise(\\d\\d)_\\w+\\(\\)");
    private static final Pattern QUOTES = Pattern.compile("(?s)Edge\\.says\\((.*?)\\);\n");

    private final String document;
    private final boolean[] isQuoted;
    private final int[] tests = new int[PROMISES + 1];

    private DocumentTest(String document) {
        this.document = document;
        isQuoted = new boolean[document.length()];
    }

    public static void main(String[] args) throws IOException {
        DocumentTest test = new DocumentTest(Files.readString(Path.of("../shared/DOC.md")));
        for (Path file : sources()) {
            test.readTests(Files.readString(file));
        }
        int wrong = test.promisesWithoutTests() + test.sentencesWithoutTests();
        System.out.println(wrong == 0 ? "each sentence has a test" : wrong + " gaps");
        System.exit(wrong == 0 ? 0 : 1);
    }

    private static List<Path> sources() throws IOException {
        try (Stream<Path> files = Files.list(Path.of("src/test/java"))) {
            return files.filter(file -> file.toString().endsWith(".java")).sorted().collect(Collectors.toList());
        }
    }

    private void readTests(String source) {
        String whole = withConstants(source.replaceAll("\"\\s*\\+\\s*\"", ""));
        Matcher quotes = QUOTES.matcher(whole);
        while (quotes.find()) {
            int promise = promiseAt(whole, quotes.start());
            Matcher texts = TEXT.matcher(quotes.group(1));
            while (texts.find()) {
                markQuote(texts.group(1).replace("\\\"", "\""), promise);
            }
        }
        Matcher named = TEST.matcher(whole);
        while (named.find()) {
            tests[Math.min(PROMISES, Integer.parseInt(named.group(1)))]++;
        }
    }

    private static String withConstants(String source) {
        Map<String, String> constants = new HashMap<>();
        Matcher found = CONSTANT.matcher(source);
        while (found.find()) {
            constants.put(found.group(1), found.group(2));
        }
        String whole = source;
        for (Map.Entry<String, String> constant : constants.entrySet()) {
            String quoting = "(Edge\\.says\\([^;]*)\\b" + constant.getKey() + "\\b";
            whole = whole.replaceAll(quoting, "$1" + Matcher.quoteReplacement(constant.getValue()));
        }
        return whole;
    }

    /** By which promise the test at a place is named; 0 ahead of all tests, where their helpers are. */
    private static int promiseAt(String source, int place) {
        int promise = 0;
        Matcher named = TEST.matcher(source).region(0, place);
        while (named.find()) {
            promise = Integer.parseInt(named.group(1));
        }
        return promise;
    }

    private void markQuote(String quote, int promise) {
        int first = document.indexOf("## Promise 1:");
        markWithin(quote, 0, first);
        int start = document.indexOf("## Promise " + promise + ":");
        if (start >= 0) {
            int end = document.indexOf("\n## ", start);
            markWithin(quote, start, end < 0 ? document.length() : end);
        }
    }

    /** A quote that stands in several places of the Terms would cover too much. */
    private void markWithin(String quote, int from, int to) {
        String part = document.substring(from, to);
        int place = part.indexOf(quote);
        if (place < 0 || part.indexOf(quote, place + 1) >= 0) {
            return;
        }
        mark(from + place, from + place + quote.length());
    }

    private void mark(int from, int to) {
        for (int k = from; k < to; k++) {
            isQuoted[k] = true;
        }
    }

    private int promisesWithoutTests() {
        int wrong = 0;
        for (int promise = 1; promise <= PROMISES; promise++) {
            if (tests[promise] == 0) {
                wrong++;
                System.out.println("no test is named by promise " + promise);
            }
        }
        return wrong;
    }

    private int sentencesWithoutTests() {
        for (String pattern : NO_SENTENCES) {
            Matcher found = Pattern.compile(pattern).matcher(document);
            while (found.find()) {
                mark(found.start(), found.end());
            }
        }
        int wrong = 0;
        int start = 0;
        for (int k = 0; k <= document.length(); k++) {
            if (k == document.length() || isQuoted[k]) {
                wrong += isGap(document.substring(start, k)) ? 1 : 0;
                start = k + 1;
            }
        }
        return wrong;
    }

    private static boolean isGap(String text) {
        boolean isGap = text.matches("(?s).*\\w.*");
        if (isGap) {
            System.out.println("no test quotes: " + text.strip());
        }
        return isGap;
    }
}
