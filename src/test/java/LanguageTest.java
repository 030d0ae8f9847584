import java.io.IOException;
import java.nio.file.Files;
import java.nio.file.Path;
import java.util.regex.Matcher;
import java.util.regex.Pattern;

/** Rules of LANGUAGE.md that can be seen in the text of the program. */
final class LanguageTest {
    private static final String[] NOT_WRITTEN = {
        "\\bpackage\\b", "\\bimport\\b", "\\bthrow\\b", "\\bthrows\\b", "\\btry\\b", "\\bcatch\\b",
        "\\bsynchronized\\b", "\\bassert\\b", "\\bprotected\\b", "\\bvolatile\\b", "\\bnative\\b", "->", "::",
        "\\bSystem\\.(?!arraycopy\\b)", "\\bRandom\\b", "\\bThread\\b", "\\bClass\\b", "\\bObject\\b",
        "Exact\\b", "\\bequals\\b", "\\bhashCode\\b", "\\btoString\\b", "\\bgoto\\b", "\\bvar\\b",
        "while \\(true\\)", "for \\(;", "[^\\x00-\\x7f]",
    };
    private static final int MOST_LINES = 60, MOST_PARAMETERS = 7, MOST_CLASSES = 12;

    private LanguageTest() {
    }

    public static void main(String[] args) throws IOException {
        String whole = Files.readString(Path.of("src/main/java/SeenNumbers.java"));
        String text = withoutTexts(whole);
        for (String not : NOT_WRITTEN) {
            Matcher m = Pattern.compile(not).matcher(text);
            Due.holds(not + " is not written", !m.find());
        }
        Due.holds("static fields are final", !Pattern.compile("\\bstatic (?!final\\b)\\w+(\\[\\])* \\w+\\s*[=;,]")
            .matcher(text).find());
        Due.holds("classes inside are static", !Pattern.compile("(?m)^ +(private )?(final )?class\\b")
            .matcher(text).find());
        Due.holds("at most " + MOST_CLASSES + " classes", count(text, "\\b(class|enum|record|interface) \\w+")
            <= MOST_CLASSES);
        methods(text);
        Due.end(LanguageTest.class);
    }

    private static String withoutTexts(String whole) {
        return whole.replaceAll("(?s)/\\*.*?\\*/", "").replaceAll("//[^\n]*", "")
            .replaceAll("'[^'\n]*'", "' '").replaceAll("\"[^\"\n]*\"", "\"\"");
    }

    private static int count(String text, String what) {
        return (int) Pattern.compile(what).matcher(text).results().count();
    }

    /** A method's head ends its line with an opening brace; its end is the brace below its first sign. */
    private static void methods(String text) {
        Matcher m = Pattern.compile("(?m)^( +)(?:(?:public|private|static|final) )*[\\w\\[\\]]+ (\\w+)\\(([^)]*)\\) \\{$")
            .matcher(text);
        int found = 0;
        while (m.find()) {
            if (m.group().trim().startsWith("else ") || m.group(2).matches("if|for|while|switch")) {
                continue;
            }
            found++;
            int end = text.indexOf("\n" + m.group(1) + "}", m.end());
            Due.holds(m.group(2) + " is short", end > 0 && count(text.substring(m.start(), end), "\n") <= MOST_LINES);
            Due.holds(m.group(2) + " takes few", m.group(3).split(",").length <= MOST_PARAMETERS);
        }
        Due.holds("methods are found", found > 60);
    }
}
