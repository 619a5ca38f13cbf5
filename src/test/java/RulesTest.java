import java.io.IOException;
import java.nio.file.Files;
import java.nio.file.Path;
import java.util.regex.Matcher;
import java.util.regex.Pattern;

/** A watch on the rules of LANGUAGE.md that a look at the program's text can tell. */
final class RulesTest {
    private static final String FILE = "src/main/java/CoilBench.java";
    private static final String[] BANNED = {"\\bimport\\b", "\\bpackage\\b", "\\bthrows?\\b", "\\btry\\b", "\\bcatch\\b",
        "\\bsynchronized\\b", "\\bassert\\b", "->", "::", "\\bSystem\\.(?!arraycopy)", "\\bThread\\b", "\\brecord\\b",
        "\\bprotected\\b", "static\\s*\\{", "\\bhashCode\\b", "\\btoString\\b", "\\w+Exact\\b", "\"\\s*\\+|\\+\\s*\""};
    private static final String PUBLIC_NAMES =
        "feed|load|adder|wrong|count|letter|key|tick|quiet|relay|contact|lamp|net|stuck|dust|race|raced|back";

    public static void main(String[] args) throws IOException {
        String source = Files.readString(Path.of(FILE));
        String code = source.replaceAll("(?s)/\\*.*?\\*/", "").replaceAll("//[^\n]*", "");
        for (String banned : BANNED) {
            Check.due("finds of " + banned, finds(banned, code), 0);
        }
        Check.due("methods that bear a public one's name", finds("(?m)^        [\\w\\[\\] ]+ (" + PUBLIC_NAMES + ")\\(", code), 0);
        Check.due("public methods", finds("(?m)^    public (int|boolean) (" + PUBLIC_NAMES + ")\\(", code), 18);
        Check.due("public members", finds("\\bpublic\\b", code), 21);
        Check.due("members of the class without a word", finds("(?m)^    (?!public|private|\\}|\\s)\\S", code), 0);
        Check.due("classes", finds("\\bclass \\w", code) <= 12, true);
        Check.due("signs beyond 127", finds("[^\\x00-\\x7f]", source), 0);
        longMethods(code);
        Check.end("RulesTest");
    }

    private static int finds(String pattern, String code) {
        int found = 0;
        for (Matcher m = Pattern.compile(pattern).matcher(code); m.find();) {
            found++;
        }
        return found;
    }

    private static void longMethods(String code) {
        int start = 0;
        String[] lines = code.split("\n");
        for (int k = 0; k < lines.length; k++) {
            if (lines[k].matches("( {4}| {8})\\w.*\\(.*\\{")) {
                start = k;
            } else if (lines[k].matches(" {4}( {4})?\\}")) {
                Check.due("lines of " + lines[start].trim(), k - start <= 60 || lines[start].contains("class"), true);
            }
        }
    }
}
