import java.io.IOException;
import java.nio.file.Files;
import java.nio.file.Path;
import java.util.List;
import java.util.regex.Matcher;
import java.util.regex.Pattern;

/** Rules of LANGUAGE.md that can be seen in the text of the program. Run in the project's folder. */
public final class LanguageTest {
    private static final String[] BARRED = {
        "^package\\b", "^import\\b", "->", "::", "\\binstanceof\\b", "\\bcatch\\b", "\\btry\\b", "\\bfinally\\b",
        "\\bassert\\b", "\\bsynchronized\\b", "\\bthrow e\\b", "\\bObject\\b", "\\bSystem\\b", "\\bThread\\b",
        "\\bRandom\\b", "Exact\\(", "\\bhashCode\\b", "\\bequals\\b", "\\btoString\\b", "\\bwhile \\(true\\)",
        "\\bfor \\(;;\\)", "\\bprotected\\b", "@Override", "@Suppress",
    };
    private static final int MOST_LINES = 60;
    private static final int MOST_PARAMETERS = 7;
    private static final int MOST_CLASSES = 12;

    private static int count(String text, String pattern) {
        Matcher m = Pattern.compile(pattern, Pattern.MULTILINE).matcher(text);
        int n = 0;
        while (m.find()) {
            n++;
        }
        return n;
    }

    private static void checkMethods(List<String> lines) {
        int start = -1;
        String end = "";
        Pattern head = Pattern.compile("^( {4}| {8})[a-z].*\\(.*[{,)]$|^( {4}| {8})[a-z].*\\($");
        for (int i = 0; i < lines.size(); i++) {
            String line = lines.get(i);
            Matcher m = head.matcher(line);
            boolean isStatement = line.trim().matches("(if|for|while|switch|return|throw|else).*");
            if (start < 0 && m.matches() && !isStatement && !line.contains("=")) {
                start = i;
                end = (m.group(1) != null ? m.group(1) : m.group(2)) + "}";
                Check.due("parameters of line " + (i + 1), count(line, ",") < MOST_PARAMETERS, true);
            } else if (start >= 0 && line.equals(end)) {
                Check.due("length of the method in line " + (start + 1), i - start < MOST_LINES, true);
                start = -1;
            }
        }
    }

    public static void main(String[] args) throws IOException {
        Path file = Path.of("src/main/java/Mutualledger.java");
        String text = Files.readString(file);
        String code = text.replaceAll("(?s)/\\*.*?\\*/", "").replaceAll("//[^\n]*", "");
        for (String barred : BARRED) {
            Check.due("how often " + barred, count(code, barred), 0);
        }
        for (int i = 0; i < text.length(); i++) {
            if (text.charAt(i) > 127) {
                Check.due("a sign above 127 at " + i, text.charAt(i), 0);
            }
        }
        int throwing = count(code, "\\bthrow\\b");
        String allowed = "throw new (IllegalState|IllegalArgument|IndexOutOfBounds)Exception\\(\"[^\"]+\"\\);";
        Check.due("throws of a written text", count(code, allowed), throwing);
        Check.due("classes", count(code, "\\bclass\\b") <= MOST_CLASSES, true);
        Check.due("static fields that are not final", count(code, "^.*\\bstatic (?!final)[^(]*[;=]"), 0);
        Check.due("array accesses and new arrays outside Table", count(code.substring(0, code.indexOf("class Table")), "\\["), 0);
        Check.due("array accesses and new arrays behind Table", count(code.substring(code.indexOf("class Debts")), "\\["), 0);
        checkMethods(List.of(code.split("\n")));
        Check.end("LanguageTest");
    }
}
