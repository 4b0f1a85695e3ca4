import java.io.IOException;
import java.nio.file.Files;
import java.nio.file.Path;
import java.util.regex.Matcher;
import java.util.regex.Pattern;

/** What of LANGUAGE.md a look at the text of the class can tell; run in the project's own directory. */
public final class SourceTest {
    private static final String[] FORBIDDEN = {"^\\s*(import|package)\\b", "->", "::", "\\b(try|catch|finally)\\b",
        "\\b(synchronized|assert|native|volatile|transient)\\b", "\\bstatic\\s*\\{", "\\w+Exact\\b", "\\bprotected\\b",
        "\\bSystem\\.(?!arraycopy\\b)", "\\bThread\\b", "\\bObject\\b", "\\b(equals|hashCode|toString)\\s*\\(",
        "\\bMath\\.(?!(abs|max|min|floorDiv|floorMod)\\b)", "throw new \\w+\\(\\)\\.|throw (?!new )"};
    private static final int LONGEST_METHOD = 60;

    private static String withoutTextAndComments(String source) {
        return source.replaceAll("(?s)/\\*.*?\\*/", "").replaceAll("//[^\n]*", "").replaceAll("\"[^\"\n]*\"", "\"\"");
    }

    private static void dueLengths(String[] lines) {
        int start = -1;
        String end = "";
        for (int i = 0; i < lines.length; i++) {
            Matcher head = Pattern.compile("^( {4}| {8})[\\w].*\\(.*").matcher(lines[i]);
            if (start < 0 && head.matches() && !lines[i].trim().endsWith(";") && !lines[i].contains(" class ")) {
                start = i;
                end = head.group(1) + "}";
            } else if (start >= 0 && lines[i].equals(end)) {
                Checks.due("short enough: " + lines[start].trim(), i - start < LONGEST_METHOD, true);
                start = -1;
            }
        }
    }

    public static void main(String[] args) throws IOException {
        String source = Files.readString(Path.of("src/main/java/CircusLines.java"));
        String bare = withoutTextAndComments(source);
        for (String one : FORBIDDEN) {
            Matcher found = Pattern.compile(one, Pattern.MULTILINE).matcher(bare);
            if (found.find()) {
                Checks.report("the class has " + found.group());
            }
        }
        for (int i = 0; i < source.length(); i++) {
            char sign = source.charAt(i);
            Checks.due("sign " + i + " is plain", sign == '\n' || sign >= 32 && sign < 127, true);
        }
        dueLengths(source.split("\n"));
        Checks.end();
    }
}
