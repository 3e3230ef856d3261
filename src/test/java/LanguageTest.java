import java.io.IOException;
import java.lang.reflect.Constructor;
import java.lang.reflect.Field;
import java.lang.reflect.Method;
import java.lang.reflect.Modifier;
import java.nio.file.Files;
import java.nio.file.Path;
import java.util.ArrayList;
import java.util.List;
import java.util.Set;
import java.util.TreeSet;
import java.util.regex.Matcher;
import java.util.regex.Pattern;

/** What can be seen of LANGUAGE.md from outside: the face, the words that it rules out, the sizes. Run it at the root. */
public final class LanguageTest {
    private static final String FACE = "row/3 set/3 copy/5 drop/1 feed/1 coast/0 fault/0 seasons/1 build/1 turn/2 buy/1 "
            + "undo/0 pier/2 ahead/3 purse/1 gone/1 aim/4 take/2 give/2 turning/2 cross/1 fits/5 fire/3 drawn/3 image/1 "
            + "restore/1 kind/1 as/2 ask/2 trace/1 count/1 status/0";
    private static final String[] RULED_OUT = {"\\bthrow\\b", "\\btry\\b", "\\bcatch\\b", "\\bsynchronized\\b", "\\bassert\\b",
        "->", "::", "\\bpackage\\b", "\\bimport\\b", "Exact\\b", "\\bgetClass\\b", "\\bhashCode\\b", "\\btoString\\b", "@"};
    private static int wrong = 0;

    public static void main(String[] args) throws IOException {
        theFace();
        String source = Files.readString(Path.of("src/main/java/PierYears.java"));
        String code = source.replaceAll("(?s)/\\*.*?\\*/", "").replaceAll("//[^\n]*", "");
        theWords(code);
        theObjectsMade(code);
        theLengths(source);
        System.out.println(wrong == 0 ? "the language is kept to" : wrong + " rules are broken");
        System.exit(wrong == 0 ? 0 : 1);
    }

    private static void check(boolean holds, String rule) {
        if (!holds) {
            wrong++;
            System.out.println(rule);
        }
    }

    private static void theFace() {
        Class<?> type = PierYears.class;
        check(Modifier.isPublic(type.getModifiers()) && Modifier.isFinal(type.getModifiers()), "rule 1: public, final");
        Set<String> seen = new TreeSet<>();
        List<String> kept = new ArrayList<>();
        for (Method method : type.getDeclaredMethods()) {
            if (Modifier.isPublic(method.getModifiers())) {
                check(method.getReturnType() == int.class, "rule 1: " + method + " answers an int");
                seen.add(method.getName() + "/" + method.getParameterCount());
            } else {
                check(Modifier.isPrivate(method.getModifiers()), "rule 1: " + method + " is private");
                kept.add(method.getName());
            }
        }
        check(seen.equals(new TreeSet<>(List.of(FACE.split(" ")))), "rule 1: the face is " + seen);
        for (String name : kept) {
            check(!(" " + FACE).contains(" " + name + "/"), "rule 1: a private method bears the name " + name);
        }
        for (Constructor<?> made : type.getDeclaredConstructors()) {
            check(Modifier.isPublic(made.getModifiers()) && made.getParameterCount() == 0, "rule 1: " + made);
        }
        theFields(type);
        Class<?>[] inside = type.getDeclaredClasses();
        check(inside.length + 1 <= 12, "rule 11: classes " + (inside.length + 1));
        for (Class<?> one : inside) {
            check(Modifier.isStatic(one.getModifiers()) && !Modifier.isPublic(one.getModifiers()), "rule 1: " + one);
            theFields(one);
        }
    }

    private static void theFields(Class<?> type) {
        int fields = 0;
        for (Field field : type.getDeclaredFields()) {
            boolean isConstant = Modifier.isStatic(field.getModifiers());
            boolean isTold = Set.of("NONE", "BAD", "STATE", "FULL").contains(field.getName());
            fields += isConstant ? 0 : 1;
            check(!isConstant || Modifier.isFinal(field.getModifiers()), "rule 5: " + field);
            check(type != PierYears.class || isTold != Modifier.isPrivate(field.getModifiers()), "rule 1: " + field);
        }
        check(fields <= 20, "rule 11: " + fields + " fields of " + type);
    }

    private static void theWords(String code) {
        for (String word : RULED_OUT) {
            Matcher found = Pattern.compile(word).matcher(code);
            check(!found.find(), "rules 2 to 6: " + word);
        }
    }

    /** All is made with the object: no call may fill the room. */
    private static void theObjectsMade(String code) {
        for (String line : code.split("\n")) {
            boolean isField = line.matches("\\s+(private )?final \\S+ \\w+ = new .*;");
            check(!line.matches(".*\\bnew\\b.*") || isField, "made in a call: " + line.strip());
        }
    }

    private static void theLengths(String source) {
        String[] lines = source.split("\n");
        int begun = 0;
        for (int k = 0; k < lines.length; k++) {
            if (lines[k].matches("    (    )?[a-z][^=]*\\) \\{")) {
                begun = k;
                check(lines[k].split(",").length <= 7, "rule 11: parameters of " + lines[k].strip());
            }
            if (lines[k].matches("    (    )?\\}") && begun > 0) {
                check(k - begun < 60, "rule 11: " + lines[begun].strip() + " is long");
                begun = 0;
            }
        }
    }
}
