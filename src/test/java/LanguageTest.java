import java.io.IOException;
import java.nio.file.Files;
import java.nio.file.Path;
import java.util.regex.Matcher;
import java.util.regex.Pattern;

/** What of LANGUAGE.md can be seen in the source's letters. Run from the project's root. */
public final class LanguageTest {
    private static final Checks checks = new Checks("LanguageTest");
    private static final String[] FORBIDDEN = {
        "\\bimport\\b", "\\bpackage\\b", "\\bthrow\\b", "\\bthrows\\b", "\\btry\\b", "\\bcatch\\b", "\\bsynchronized\\b",
        "\\bassert\\b", "->", "::", "\\bSystem\\b", "Exact\\b", "\\bprotected\\b", "\\bvolatile\\b", "\\bnative\\b", "\\bequals\\b",
        "\\bhashCode\\b", "\\btoString\\b", "\\bstatic\\s*\\{", "\\bThread\\b", "\\bdouble\\b", "\\bfloat\\b", "@",
        // cells are looked at in Row alone, stoves in Shelf alone; no division by what was not looked at
        "\\[[^\\]]+\\]\\s*\\[", "%\\s*home",
    };

    public static void main(String[] args) throws IOException {
        String source = Files.readString(Path.of("src/main/java/StoveFavours.java"));
        String code = source.replaceAll("(?s)/\\*.*?\\*/", "").replaceAll("//[^\\n]*", "");
        for (String word : FORBIDDEN) {
            checks.due("'" + word + "' in the code", count(code, word), 0);
        }
        checks.due("letters beyond 127", count(source, "[^\\x00-\\x7F]"), 0);
        checks.due("at most 12 classes", count(code, "\\bclass\\b") <= 12 ? 1 : 0, 1);
        checks.due("classes that are static and private", count(code, "private static final class"), count(code, "\\bclass\\b") - 1);
        checks.due("static fields that are not final", count(code, "static (int|long|boolean|char|String|byte)(\\[\\])? \\w+( =|;|,)"), 0);
        methodsAreShort(code);
        checks.finish();
    }

    private static int count(String text, String word) {
        Matcher matcher = Pattern.compile(word).matcher(text);
        int count = 0;
        while (matcher.find()) {
            count++;
        }
        return count;
    }

    /** No brace two levels below a class stands open for more than sixty lines. */
    private static void methodsAreShort(String code) {
        int longest = 0;
        int begun = 0;
        String[] lines = code.split("\n");
        for (int k = 0; k < lines.length; k++) {
            if (lines[k].matches("( {4}| {8})[^ }].*\\) \\{")) {
                begun = k;
            }
            if (lines[k].matches("( {4}| {8})\\}")) {
                longest = Math.max(longest, k - begun);
            }
            if (lines[k].contains(" class ")) {
                begun = lines.length;
            }
        }
        checks.due("methods of at most sixty lines", longest <= 60 ? 1 : 0, 1);
    }
}
