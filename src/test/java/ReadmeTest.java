import java.io.File;
import java.io.IOException;
import java.nio.file.Files;
import java.nio.file.Path;
import java.util.ArrayList;
import java.util.List;
import java.util.Map;
import java.util.Set;
import java.util.TreeSet;
import java.util.regex.Matcher;
import java.util.regex.Pattern;

/**
 * README.md must say what is so: its Java is compiled, as it stands there, into one program, in which each call must answer
 * what is written behind it. Run it at the root.
 */
public final class ReadmeTest {
    private static final String README = "README.md", PROGRAM = "ReadmeCalls";
    private static final Pattern CALL = Pattern.compile("(\\w+\\.(\\w+)\\([^;]*\\));\\s*// (-?\\d+|NONE|BAD|STATE|FULL)\\b.*");
    private static final Pattern ROW = Pattern.compile("\\| `?([A-Z]+)`? \\| (-\\d+) \\|(?: (\\d) \\|)?.*");
    private static final Map<String, Integer> ANSWERS = Map.of("NONE", Edge.NONE, "BAD", Edge.BAD, "STATE", Edge.STATE, "FULL",
            Edge.FULL, "NULL", Edge.NULL, "PLACE", Edge.PLACE, "KIND", Edge.KIND, "SIZE", Edge.SIZE, "STORE", Edge.STORE);
    private static final Pattern FACE = Pattern.compile("public int (\\w+)\\(");

    private final Set<String> shown = new TreeSet<>();
    private final Set<String> told = new TreeSet<>();
    private int wrong = 0;

    public static void main(String[] args) throws IOException, InterruptedException {
        ReadmeTest test = new ReadmeTest();
        List<String> lines = Files.readAllLines(Path.of(README));
        String program = test.programOf(lines);
        test.lookAtTables(lines);
        test.lookAtPaths(lines);
        test.lookAtCalls();
        test.runProgram(program);
        System.out.println(test.wrong == 0 ? "README.md says what is so" : test.wrong + " are not so");
        System.exit(test.wrong == 0 ? 0 : 1);
    }

    private void check(boolean holds, String otherwise) {
        if (!holds) {
            wrong++;
            System.out.println(otherwise);
        }
    }

    // ---- its Java

    private String programOf(List<String> lines) {
        List<String> made = new ArrayList<>(List.of("public final class " + PROGRAM + " {",
                "private static int wrong = 0;",
                "private static void due(int line, int got, int want) { if (got != want) { wrong++; System.out.println("
                + "\"" + README + ", line \" + line + \": answered \" + got + \", due is \" + want); } }",
                "public static void main(String[] args) {"));
        boolean isJava = false;
        for (int k = 0; k < lines.size(); k++) {
            if (lines.get(k).startsWith("```")) {
                isJava = lines.get(k).equals("```java");
            } else if (isJava) {
                made.add(checked(lines.get(k), k + 1));
            }
        }
        made.add("System.exit(wrong == 0 ? 0 : 1); } }");
        return String.join("\n", made);
    }

    private String checked(String line, int number) {
        Matcher call = CALL.matcher(line);
        if (call.matches()) {
            shown.add(call.group(2));
            String answer = call.group(3);
            String want = ANSWERS.containsKey(answer) ? "PierYears." + answer : answer;
            return "due(" + number + ", " + call.group(1) + ", " + want + ");";
        }
        check(!line.matches("\\w+\\.\\w+\\(.*|.*//.*"), README + ", line " + number + ": no answer that can be looked at");
        return line;
    }

    private void runProgram(String program) throws IOException, InterruptedException {
        Path work = Files.createTempDirectory("readme");
        Path source = work.resolve(PROGRAM + ".java");
        Files.writeString(source, program);
        String classes = System.getProperty("java.class.path");
        boolean isCompiled = ran("javac", "-d", work.toString(), "-cp", classes, source.toString());
        check(isCompiled, "the Java of " + README + " cannot be compiled");
        String both = classes + File.pathSeparator + work;
        check(!isCompiled || ran("java", "-cp", both, PROGRAM), "calls of " + README + " answer otherwise");
        for (String name : new String[] {PROGRAM + ".java", PROGRAM + ".class"}) {
            Files.deleteIfExists(work.resolve(name));
        }
        Files.deleteIfExists(work);
    }

    private static boolean ran(String... words) throws IOException, InterruptedException {
        return new ProcessBuilder(words).inheritIO().start().waitFor() == 0;
    }

    // ---- what it says beside

    private void lookAtTables(List<String> lines) {
        for (String line : lines) {
            Matcher row = ROW.matcher(line);
            if (row.matches()) {
                int answer = Integer.parseInt(row.group(2));
                String name = row.group(1);
                told.add(name);
                check(ANSWERS.getOrDefault(name, 0) == answer, README + ": " + name + " is not " + answer);
                boolean isNumbered = row.group(3) == null || answer == -1000010 - Integer.parseInt(row.group(3));
                check(isNumbered, README + ": status() of " + name + " is not " + row.group(3));
            }
        }
        check(told.equals(ANSWERS.keySet()), README + " tells of " + told + ", due are " + ANSWERS.keySet());
    }

    /** The tests that it names must be there, and it must name each test that is there. */
    private void lookAtPaths(List<String> lines) throws IOException {
        String text = String.join("\n", lines);
        Matcher path = Pattern.compile("`((?:src|\\.ci)/[\\w/.]+)`").matcher(text);
        while (path.find()) {
            check(Files.exists(Path.of(path.group(1))), README + ": there is no " + path.group(1));
        }
        for (File file : new File("src/test/java").listFiles()) {
            String kind = file.getName().replaceAll("(Edges|Sentences)\\w+\\.java", "$1*.java");
            check(text.contains("`src/test/java/" + kind + "`"), README + " does not name " + file);
        }
    }

    private void lookAtCalls() throws IOException {
        Matcher call = FACE.matcher(Files.readString(Path.of("../shared/DOC.md")));
        while (call.find()) {
            check(shown.contains(call.group(1)), README + " shows no answer of " + call.group(1) + "()");
        }
    }
}
