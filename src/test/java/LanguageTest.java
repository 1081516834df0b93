import java.io.IOException;
import java.nio.file.Files;
import java.nio.file.Path;
import java.util.List;
import java.util.regex.Matcher;
import java.util.regex.Pattern;

/** What of LANGUAGE.md can be seen by going over the text of the program. */
public final class LanguageTest {
    private static final Path PROGRAM = Path.of("src/main/java/SharedModuli.java");
    private static final List<String> RULED_OUT = List.of("import", "package", "protected", "try", "catch", "finally",
        "synchronized", "assert", "var", "yield", "float", "volatile", "native", "equals", "hashCode", "toString",
        "Object", "Double", "Thread", "Random", "Runtime", "StrictMath");
    private static final String THROWN = "throw new (IllegalStateException|IllegalArgumentException|"
        + "IndexOutOfBoundsException)\\(\"\"\\);";
    private static final Pattern HEAD = Pattern.compile(
        "^( {8}| {4})(?=[a-zA-Z])(?!else|for|if|switch|return)[\\w\\[\\] ]+\\(([^)]*)\\).*\\{$");
    private static final int LONGEST_METHOD = 60;
    private static final int LEAST_METHODS = 60;
    private static final int MOST_CLASSES = 12;
    private static final int MOST_FIELDS = 20;

    public static void main(String[] args) throws IOException {
        Check check = new Check("LanguageTest");
        String source = Files.readString(PROGRAM);
        check.isTrue("signs 1 to 127 alone", source.chars().allMatch(sign -> sign > 0 && sign < 128));
        String code = source.replaceAll("(?s)/\\*.*?\\*/", "").replaceAll("//[^\n]*", "")
            .replaceAll("\"[^\"]*\"", "\"\"").replaceAll("'[^']+'", "' '");
        checkWords(check, code);
        checkThrows(check, code);
        checkLoops(check, code);
        checkClasses(check, code);
        checkMethods(check, code);
        check.end();
    }

    private static int found(String code, String pattern) {
        Matcher matcher = Pattern.compile(pattern).matcher(code);
        int times = 0;
        while (matcher.find()) {
            times++;
        }
        return times;
    }

    private static void checkWords(Check check, String code) {
        for (String word : RULED_OUT) {
            check.due("the word " + word, found(code, "\\b" + word + "\\b"), 0);
        }
        check.due("lambdas", found(code, "->"), 0);
        check.due("method references", found(code, "::"), 0);
        check.due("annotations", found(code, "@"), 0);
        check.due("calls whose name ends in Exact", found(code, "Exact\\("), 0);
        check.due("texts joined by +", found(code, "\"\\s*\\+|\\+\\s*\""), 0);
        check.due("static fields that are not final", found(code, "\\bstatic (?!final|class)[^()]*;"), 0);
        check.due("static doubles", found(code, "static final (double|Condition|State)"), 0);
        check.due("library other than Integer.bitCount, Math.min and Math.floorMod",
            found(code, "\\b(Integer|Long|Math|System|Arrays|String|StringBuilder|Character)\\b"),
            found(code, "\\b(Integer\\.bitCount|Math\\.min|Math\\.floorMod)\\("));
    }

    private static void checkThrows(Check check, String code) {
        check.due("throws of other things than written texts", found(code, "\\bthrow\\b"), found(code, THROWN));
    }

    /** Every loop is a for with a counter against a bound. */
    private static void checkLoops(Check check, String code) {
        check.due("while", found(code, "\\bwhile\\b"), 0);
        check.due("loops", found(code, "\\bfor\\b"), found(code, "for \\(int (\\w+) = [^;]+; \\1 <=? [^;]+; \\1\\+\\+\\)"));
    }

    private static void checkClasses(Check check, String code) {
        check.isTrue("few classes", found(code, "\\bclass\\b") <= MOST_CLASSES);
        check.due("one public class", found(code, "public (final )?class"), 1);
        for (String part : code.split("\\bclass\\b")) {
            int fields = found(part, "(?m)^ +private (final )?\\w+(\\[\\])? \\w+;");
            check.isTrue("few fields: " + fields, fields <= MOST_FIELDS);
        }
    }

    private static void checkMethods(Check check, String code) {
        String[] lines = code.split("\n");
        int began = -1;
        int methods = 0;
        String indent = "";
        for (int k = 0; k < lines.length; k++) {
            Matcher head = HEAD.matcher(lines[k]);
            if (began < 0 && head.find() && !lines[k].contains(" new ")) {
                began = k;
                methods++;
                indent = head.group(1);
                check.isTrue("few parameters: " + lines[k], head.group(2).split(",").length <= 7);
            } else if (began >= 0 && lines[k].equals(indent + "}")) {
                check.isTrue("short enough: " + lines[began], k - began < LONGEST_METHOD);
                began = -1;
            }
        }
        check.isTrue("enough methods seen: " + methods, methods >= LEAST_METHODS);
        check.due("methods whose end was not found", began, -1);
    }
}
