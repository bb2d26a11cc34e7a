import java.io.IOException;
import java.nio.file.Files;
import java.nio.file.Path;
import java.util.Arrays;
import java.util.List;
import java.util.TreeSet;
import java.util.regex.Matcher;
import java.util.regex.Pattern;

/** Those rules of ../shared/LANGUAGE.md that the text of StripDie.java shows. */
public final class LanguageTest {
    private static final Path SOURCE = Path.of("src", "main", "java", "StripDie.java");
    private static final List<String> LIBRARY = Arrays.asList(
            "Math.max", "Math.min", "Integer.bitCount", "Long.bitCount");

    public static void main(String[] args) throws IOException {
        Check check = new Check("LanguageTest");
        String source = Files.readString(SOURCE);
        String code = source.replaceAll("(?s)/\\*.*?\\*/", "").replaceAll("//[^\n]*", "")
                .replaceAll("\"[^\"\n]*\"", "\"\"");
        String[] banned = {
            "\\bimport\\b", "\\bpackage\\b", "\\btry\\b", "\\bcatch\\b", "\\bfinally\\b", "\\bsynchronized\\b",
            "\\bassert\\b", "\\bvolatile\\b", "\\bnative\\b", "->", "::", "\\bSystem\\b", "\\bThread\\b",
            "\\bObject\\b", "\\bRandom\\b", "\\bhashCode\\b", "\\btoString\\b", "Exact\\b", "\"\" *\\+", "\\+ *\"\"",
            "\\bvar\\b", "\\brecord\\b", "@",
        };
        for (String b : banned) {
            Matcher m = Pattern.compile(b).matcher(code);
            check.compare(b, "no", m.find() ? "yes" : "no");
        }

        TreeSet<String> used = new TreeSet<>();
        Matcher calls = Pattern.compile("\\b[A-Z][a-z]\\w*\\.\\w+").matcher(code);
        while (calls.find()) {
            used.add(calls.group());
        }
        used.removeAll(LIBRARY);
        check.compare("other library", "[]", used.toString());

        Matcher statics = Pattern.compile("\\bstatic (?!final )[^\n(]*;").matcher(code);
        check.compare("static state", "no", statics.find() ? "yes" : "no");
        check.compare("static initialiser", "no", Pattern.compile("static *\\{").matcher(code).find() ? "yes" : "no");

        boolean plain = source.chars().allMatch(c -> c == '\n' || c >= 32 && c < 127);
        check.compare("plain signs", "true", Boolean.toString(plain));
        checkMethods(check, code);
        check.end();
    }

    /** Methods stand at an indent of four or eight, and end with a brace at the same indent. */
    private static void checkMethods(Check check, String code) {
        String[] lines = code.split("\n");
        int classes = 0;
        for (int i = 0; i < lines.length; i++) {
            if (lines[i].matches(".*\\bclass \\w+.*")) {
                classes++;
            }
            Matcher head = Pattern.compile("^( {4}| {8})(?! )[\\w\\[\\]<> ]+ \\w+\\(([^)]*)\\).*").matcher(lines[i]);
            if (!head.matches() || lines[i].endsWith(";")) {
                continue;
            }
            int end = i;
            while (!lines[end].equals(head.group(1) + "}")) {
                end++;
            }
            check.is("short: " + lines[i].trim(), 1, end - i < 60 ? 1 : 0);
            check.is("parameters: " + lines[i].trim(), 1, head.group(2).split(",").length <= 7 ? 1 : 0);
        }
        check.is("few classes", 1, classes <= 12 ? 1 : 0);
    }
}
