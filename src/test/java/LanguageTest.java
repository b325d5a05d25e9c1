import java.io.IOException;
import java.nio.charset.StandardCharsets;
import java.nio.file.Files;
import java.nio.file.Path;
import java.util.List;
import java.util.regex.Matcher;
import java.util.regex.Pattern;

/** Rules of LANGUAGE.md that can be seen in the text of the class: what it may not use, and how long things may be. */
public final class LanguageTest {
    private static final int LONGEST_METHOD = 60;
    private static final int MOST_CLASSES = 12;
    private static final int MOST_PARAMETERS = 7;
    private static final List<String> IMPORTS = List.of("java.util.Arrays", "java.util.NoSuchElementException");
    private static final String[] NOT_ALLOWED = {"->", "::", "\\bsynchronized\\b", "\\bassert\\b", "\\bfinally\\b",
        "\\btry\\b", "\\bcatch\\b", "\\bdouble\\b", "\\bfloat\\b", "\\bpackage\\b", "\\bprotected\\b", "\\binstanceof\\b",
        "static\\s*\\{", "Exact\\(", "\\bSystem\\.(?!arraycopy\\b)", "\\bMath\\.(?!max\\b|min\\b|abs\\b)",
        "\\bInteger\\.(?!bitCount\\b)", "\\bArrays\\.(?!fill\\b|copyOf\\b|copyOfRange\\b)", "\\bjava\\.(?!util\\.)",
        "\\bthrow (?!new NoSuchElementException\\(\\);)", "\\bhashCode\\b", "\\btoString\\b", "\\bequals\\b"};
    /** The calls in the document's order, under the words that its interface says ahead of them. */
    private static final String SECTIONS = "---- what is told: sign end bill terms measures strikes stores change alters "
        + "setsOff disputes decides handover closes pays due grants indexes "
        + "---- months: amount item priced held sum lines "
        + "---- all months: recovered limited reaches worst clears paces enough shifts were dearest ends leads above like "
        + "would keeps overdue needed rises "
        + "---- the final account: account count row ";
    private static final Pattern METHOD = Pattern.compile("(?m)^( {4}| {8})(?=\\S)[\\w<>\\[\\] ]*\\w+\\(([^)]*)\\)[\\w ]*\\{$");

    public static void main(String[] args) throws IOException {
        String text = Files.readString(Path.of("src/main/java/WorksDesk.java"), StandardCharsets.US_ASCII);
        String code = withoutComments(text);
        for (String pattern : NOT_ALLOWED) {
            Matcher found = Pattern.compile(pattern).matcher(code);
            Check.is("the class does without " + pattern, found.find(), false);
        }
        imports(code);
        methods(code);
        staticFields(code);
        Check.is("calls and what is said ahead of them", sections(text).equals(SECTIONS), true);
        Check.is("classes, at most " + MOST_CLASSES, count(code, "\\bclass \\w+ \\{") <= MOST_CLASSES, true);
        Check.is("public classes", count(code, "\\bpublic [\\w ]*class\\b"), 1);
        Check.end("LanguageTest");
    }

    private static String withoutComments(String text) {
        return text.replaceAll("(?s)/\\*.*?\\*/", "").replaceAll("//[^\n]*", "");
    }

    private static int count(String code, String pattern) {
        int many = 0;
        Matcher found = Pattern.compile(pattern).matcher(code);
        while (found.find()) {
            many++;
        }
        return many;
    }

    private static void imports(String code) {
        Matcher found = Pattern.compile("import ([\\w.*]+);").matcher(code);
        while (found.find()) {
            Check.is("import of " + found.group(1), IMPORTS.contains(found.group(1)), true);
        }
    }

    private static void methods(String code) {
        Matcher found = METHOD.matcher(code);
        int many = 0;
        while (found.find()) {
            many++;
            String head = found.group().strip();
            int end = code.indexOf("\n" + found.group(1) + "}", found.end());
            long lines = code.substring(found.start(), Math.max(found.end(), end)).lines().count();
            Check.is(head + " has " + lines + " lines", lines <= LONGEST_METHOD, true);
            Check.is(head + " takes seven at most", found.group(2).split(",").length <= MOST_PARAMETERS, true);
        }
        Check.is("methods were found", many > 46, true);
    }

    private static String sections(String text) {
        StringBuilder said = new StringBuilder();
        Matcher found = Pattern.compile("(?m)^    // (---- .*)$|^    public \\w+ (\\w+)\\(").matcher(text);
        String ahead = "";
        while (found.find()) {
            if (found.group(1) != null) {
                ahead = found.group(1) + ": ";
            } else {
                said.append(ahead).append(found.group(2)).append(' ');
                ahead = "";
            }
        }
        return said.toString();
    }

    /** Static fields are final numbers, or arrays of them that are written out. */
    private static void staticFields(String code) {
        Matcher found = Pattern.compile("(?m)^ +[\\w ]*\\bstatic\\b[^(;{]*(=[^;]*)?;$").matcher(code);
        while (found.find()) {
            String field = found.group().strip();
            Check.is(field, field.matches("(?s)(public |private )?static final (int|int\\[\\]) [A-Z_]+ = .*"), true);
        }
    }
}
