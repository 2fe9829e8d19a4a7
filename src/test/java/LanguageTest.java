import java.io.IOException;
import java.nio.file.Files;
import java.nio.file.Path;
import java.util.List;
import java.util.Set;
import java.util.TreeSet;
import java.util.regex.MatchResult;
import java.util.regex.Pattern;

/**
 * Those rules of LANGUAGE.md that the class's text shows. The class needs no library and no catch, so the
 * test asks for that much more than the rules do, which makes it a simple one.
 */
public final class LanguageTest {
    private static final Path CLASS = Path.of("src/main/java/CopyHeap.java");
    private static final int LONGEST_METHOD = 60;
    private static final int MOST_PARAMETERS = 7;

    /** Every name with a capital letter in front that may stand in the class, its constants left out. */
    private static final Set<String> KNOWN_TYPES = Set.of("CopyHeap", "Half",
        "IllegalArgumentException", "IllegalStateException", "IndexOutOfBoundsException");

    private static final List<String> FORBIDDEN = List.of(
        "\\bpackage\\b", "\\bimport\\b", "\\btry\\b", "\\bcatch\\b", "\\bfinally\\b", "\\bsynchronized\\b",
        "\\bassert\\b", "\\bnative\\b", "\\bvolatile\\b", "->", "::", "\\bstatic\\s*\\{", "\\bequals\\b",
        "\\bhashCode\\b", "\\btoString\\b", "\\bgetClass\\b", "\\bwhile\\s*\\(\\s*true\\b", "\\bfor\\s*\\(\\s*;\\s*;");

    private static int wrong = 0;

    private static void fail(String rule, String text) {
        wrong++;
        System.out.println("rule " + rule + ": " + text);
    }

    private static List<String> all(String pattern, String text) {
        return Pattern.compile(pattern).matcher(text).results().map(MatchResult::group).toList();
    }

    private static String withoutComments(String text) {
        return text.replaceAll("(?s)/\\*.*?\\*/", "").replaceAll("//[^\n]*", "");
    }

    private static void checkWords(String code) {
        String words = code.replaceAll("\"[^\"]*\"", "\"\"");
        for (String each : FORBIDDEN) {
            for (String found : all(each, words)) {
                fail("2, 4 or 6", found);
            }
        }
        Set<String> types = new TreeSet<>(all("\\b[A-Z][A-Za-z]*[a-z][A-Za-z]*\\b", words));
        types.removeAll(KNOWN_TYPES);
        for (String each : types) {
            fail("3 or 4", each);
        }
    }

    /** throw new E() or throw new E("a written text"), and none in a constructor. */
    private static void checkThrows(String code) {
        int written = all("\\bthrow new [A-Z]\\w+\\((\"[^\"]*\")?\\);", code).size();
        if (written != all("\\bthrow\\b", code).size()) {
            fail("6", "a throw is not written as throw new E(\"..\")");
        }
        for (String each : all("(?s)\\n +(public )?(CopyHeap|Half)\\([^)]*\\) \\{.*?\\n +\\}", code)) {
            if (each.contains("throw")) {
                fail("6", "a constructor throws: " + each);
            }
        }
    }

    private static void checkStaticFields(String code) {
        for (String each : all("(?m)^.*\\bstatic\\b[^({\\n]*[;=].*$", code)) {
            if (!each.matches(".*\\bstatic final (int|long|boolean|char|String) [A-Z_]+ = .*;")) {
                fail("5", each.strip());
            }
        }
    }

    /** A method begins at a line that ends in ") {" or "throws .. {" and ends at the next brace as deep as it. */
    private static void checkMethods(String text) {
        String header = "(?m)^( {4}| {8})(?!if|for|while|switch|\\}| )[^\\n=;]*\\(([^)]*)\\)[^;{]*\\{$";
        for (MatchResult each : Pattern.compile(header).matcher(text).results().toList()) {
            String body = text.substring(each.start(), text.indexOf("\n" + each.group(1) + "}", each.start()));
            if (body.lines().count() + 1 > LONGEST_METHOD) {
                fail("11", "a long method: " + each.group());
            }
            if (each.group(2).split(",").length > MOST_PARAMETERS) {
                fail("11", "many parameters: " + each.group());
            }
        }
    }

    public static void main(String[] args) throws IOException {
        String code = withoutComments(Files.readString(CLASS));
        checkWords(code);
        checkThrows(code);
        checkStaticFields(code);
        checkMethods(code);
        System.out.println(wrong == 0 ? "the class keeps to the rules" : wrong + " breaks of the rules");
        if (wrong != 0) {
            System.exit(1);
        }
    }
}
