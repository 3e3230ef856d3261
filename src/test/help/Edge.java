import java.io.IOException;
import java.lang.reflect.InvocationTargetException;
import java.lang.reflect.Method;
import java.nio.file.Files;
import java.nio.file.Path;
import java.util.Arrays;
import java.util.Comparator;

/** What the tests of edges share: how they are run, what they quote, and objects at the document's limits. */
final class Edge {
    static final int NONE = -1000000, BAD = -1000001, STATE = -1000002, FULL = -1000003;
    static final int NULL = -1000011, PLACE = -1000012, KIND = -1000013, SIZE = -1000014, STORE = -1000015;
    static final int FAULTY = -1000100;
    static final int LEAST = Integer.MIN_VALUE, MOST = Integer.MAX_VALUE;

    /** One of each KIND. Takes are 7, 8, 12, 4, 3; STORMS are 2, 4, 1, 3, 0 and so on. */
    static final String FIVE = "l3,4,17,2,6;i2,2,5;c7,0,4;r9,1,9;w0,2,3;p4,1,2;";
    /** No STORMS, and 20 is taken in each SEASON. */
    static final String CALM = "l0,5,30,0,9;i0,1,4;";
    /** No STORMS, and 29 is taken by each PIER in each SEASON. */
    static final String RICH = "l2,5,30,0,9;i7,1,3;i7,1,3;i7,1,3;i7,1,3;i7,1,3;";
    /** A COAST without PIERS. */
    static final String BARE = "l1,1,9,0,9;";
    /** A PIER of n SPANS would take n: by it ITEMS can be seen. */
    static final String SEEING = "l0,1,30,0,0;i0,1,0;";

    private static int wrong = 0;
    private static int tests = 0;
    private static String test = "";

    private Edge() {
    }

    /** Runs each method whose name begins with "promise" and its number. */
    static void run(Class<?> type) {
        Method[] methods = type.getDeclaredMethods();
        Arrays.sort(methods, Comparator.comparing(Method::getName));
        for (Method method : methods) {
            if (method.getName().startsWith("promise")) {
                runOne(method);
            }
        }
        System.out.println(tests + " tests, " + (wrong == 0 ? "all answers are as due" : wrong + " have wrong answers"));
        System.exit(wrong == 0 && tests > 0 ? 0 : 1);
    }

    private static void runOne(Method method) {
        test = method.getName();
        tests++;
        try {
            method.setAccessible(true);
            method.invoke(null);
        } catch (InvocationTargetException e) {
            say(e.getCause() instanceof Wrong ? e.getCause().getMessage() : "threw " + e.getCause());
        } catch (IllegalAccessException e) {
            say("cannot be run: " + e);
        }
    }

    private static void say(String text) {
        wrong++;
        System.out.println(test + ": " + text);
    }

    /** Ends a test at its first wrong answer: a class that takes 61 for a number as told must not be asked for 2 billion. */
    static void check(boolean holds, String otherwise) {
        if (!holds) {
            throw new Wrong(otherwise);
        }
    }

    private static final class Wrong extends RuntimeException {
        private static final long serialVersionUID = 1L;

        Wrong(String text) {
            super(text);
        }
    }

    /** The sentences that a test stands for must be the document's own: ahead of all promises, or of the one it is named by. */
    static void says(String... sentences) {
        String document = document();
        int number = Integer.parseInt(test.substring("promise".length(), "promise".length() + 2));
        String ahead = part(document, "## What it is", "## Promise 1:");
        String promise = part(document, "## Promise " + number + ":", "## ");
        for (String sentence : sentences) {
            check((ahead + promise).contains(sentence), "the document does not say: " + sentence);
        }
    }

    static String document() {
        return textOf("../shared/DOC.md");
    }

    static String source() {
        return textOf("src/main/java/PierYears.java");
    }

    private static String textOf(String path) {
        try {
            return Files.readString(Path.of(path));
        } catch (IOException e) {
            check(false, path + " cannot be read: " + e);
            return "";
        }
    }

    static String part(String document, String from, String to) {
        int start = document.indexOf(from);
        if (start < 0) {
            return "";
        }
        int end = document.indexOf(to, start + from.length());
        return document.substring(start, end < 0 ? document.length() : end);
    }

    // ---- objects

    static Told with(String text) {
        Told x = new Told();
        x.read(text);
        return x;
    }

    /** PIER 0, of wood, has so many SPANS, PIER 1 has 4, without STORMS; so much IRON; SEASON 45. */
    static Told withLongPier(int spans, int iron) {
        Told x = with("l0,5,30,0,9;w0,1,9;i0,1,4;");
        x.pass(45);
        int toBuy = spans + iron - 18;
        int held = 9;
        for (int k = 9; k < spans; k++) {
            if (held == 0) {
                int bought = Math.min(20, toBuy);
                x.buy(bought);
                held = bought;
                toBuy -= bought;
            }
            x.build(0);
            held--;
        }
        x.buyAll(toBuy);
        return x;
    }

    /** CALM, with so much IRON, 29 to 99. */
    static Told withIron(int iron) {
        Told x = with(CALM);
        x.pass(24);
        x.buyAll(iron - 9);
        return x;
    }

    static Told inSeason(int season, String text) {
        Told x = with(text);
        x.pass(season);
        return x;
    }

    /** A tape of so many bytes that is no text. */
    static Told withTape(int bytes) {
        Told x = new Told();
        for (int k = 0; k < bytes; k++) {
            x.feed('x');
        }
        return x;
    }
}
