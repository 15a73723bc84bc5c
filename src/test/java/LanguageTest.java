import java.io.IOException;
import java.nio.charset.StandardCharsets;
import java.nio.file.Files;
import java.nio.file.Path;
import java.util.regex.Matcher;
import java.util.regex.Pattern;

/** What of LANGUAGE.md can be seen in the text of the program. */
public final class LanguageTest {
    public static void main(String[] args) throws IOException {
        String raw = Files.readString(Path.of("src/main/java/RingKiln.java"), StandardCharsets.ISO_8859_1);
        for (int i = 0; i < raw.length(); i++) {
            if (raw.charAt(i) > 126) {
                Due.holds("a sign beyond 126 at " + i, false);
            }
        }
        String code = raw.replaceAll("(?s)/\\*.*?\\*/", " ").replaceAll("//[^\n]*", " ");
        String bare = code.replaceAll("\"[^\"]*\"", "\"\"").replaceAll("'.'", "' '");
        String[] never = {"\\bthrow\\b", "\\bthrows\\b", "\\btry\\b", "\\bcatch\\b", "\\bsynchronized\\b", "\\bassert\\b",
            "->", "::", "\\bpackage\\b", "\\bimport\\b", "\\bequals\\b", "\\bhashCode\\b", "\\btoString\\b", "Exact\\b",
            "\\bstatic\\s*\\{", "\"\\s*\\+", "\\+\\s*\"", "\\bwhile\\s*\\(true\\)", "for\\s*\\(;;\\)", "\\bvar\\b",
            "\\bdouble\\b", "\\bfloat\\b", "\\bObject\\b", "\\bRandom\\b", "\\bSystem\\.(?!arraycopy)", "@"};
        for (String pattern : never) {
            Matcher m = Pattern.compile(pattern).matcher(bare);
            Due.holds("not in the language: " + pattern, !m.find());
        }
        Matcher library = Pattern.compile("\\b(Math|Integer|Long|System)\\.(\\w+)").matcher(bare);
        while (library.find()) {
            Due.holds("in the library: " + library.group(), library.group(2).matches("min|max|bitCount|arraycopy"));
        }
        methodsAreShort(bare);
        nothingIsMadeByCalls(bare);
        Due.end();
    }

    private static void methodsAreShort(String code) {
        String[] lines = code.split("\n");
        int start = -1;
        String indent = "";
        for (int i = 0; i < lines.length; i++) {
            if (start < 0 && lines[i].matches("( {4}| {8})(public |private )?(static )?[\\w\\[\\]]*( |)\\w+\\(.*\\) \\{")) {
                start = i;
                indent = lines[i].substring(0, lines[i].length() - lines[i].stripLeading().length());
            } else if (start >= 0 && lines[i].equals(indent + "}")) {
                Due.holds("a short method: " + lines[start].trim(), i - start <= 60);
                start = -1;
            }
        }
    }

    /** All rows are made once: "new" stands in fields and constructors alone. */
    private static void nothingIsMadeByCalls(String code) {
        for (String line : code.split("\n")) {
            if (line.contains("new ")) {
                boolean field = line.matches(" {8}final [\\w\\[\\]]+ \\w+ = new .*;");
                boolean constructed = line.matches(" {8,16}[\\w\\[\\]]+ = new .*;");
                Due.holds("made once: " + line.trim(), field || constructed);
            }
        }
    }
}
