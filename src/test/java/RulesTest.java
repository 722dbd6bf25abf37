import java.nio.file.Files;
import java.nio.file.Path;
import java.util.regex.Matcher;
import java.util.regex.Pattern;

/** What of LANGUAGE.md a look at the source's words can tell. */
public final class RulesTest {
    private static final String[] NEVER = {
        "->", "::", "\\bcatch\\b", "\\bfinally\\b", "\\btry\\b", "\\bsynchronized\\b", "\\bassert\\b", "Exact\\b",
        "\\bstatic \\{", "\\bpackage\\b", "\\bprotected\\b", "\\bvolatile\\b", "\\bSystem\\.(?!arraycopy)",
        "\\bObject\\b", "\\bequals\\b", "\\bhashCode\\b", "\\btoString\\b", "\\bThread\\b", "\\bRandom\\b",
        "^import (?!java\\.util\\.NoSuchElementException;)", "[^\\x00-\\x7f]", "\\bvar\\b", "java\\.lang",
    };

    public static void main(String[] args) throws Exception {
        String source = Files.readString(Path.of("src/main/java/LawnGardeners.java"));
        String code = source.replaceAll("(?s)/\\*.*?\\*/", "").replaceAll("//[^\n]*", "");
        for (String word : NEVER) {
            Matcher matcher = Pattern.compile(word, Pattern.MULTILINE).matcher(code);
            Check.due("the source has " + word, false, matcher::find);
        }
        Check.due("longest method", true, () -> longestMethod(code) <= 60);
        Check.due("static fields that are not final", false,
            () -> Pattern.compile("static (?!final)\\w+(\\[\\])? \\w+( =|;)").matcher(code).find());
        Check.end();
    }

    private static int longestMethod(String code) {
        int longest = 0;
        int start = 0;
        String[] lines = code.split("\n");
        for (int i = 0; i < lines.length; i++) {
            if (lines[i].matches("(    |        )[^ ].*\\{") && !lines[i].contains("class ")) {
                start = i;
            }
            if (lines[i].matches("(    |        )\\}")) {
                longest = Math.max(longest, i - start + 1);
            }
        }
        return longest;
    }
}
