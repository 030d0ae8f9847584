import java.io.IOException;
import java.nio.file.Files;
import java.nio.file.Path;
import java.util.Map;
import java.util.Set;
import java.util.TreeMap;
import java.util.regex.Matcher;
import java.util.regex.Pattern;

/** Rules of LANGUAGE.md that can be seen in the text of the program. */
final class LanguageTest {
    private static final String[] NOT_WRITTEN = {
        "\\bpackage\\b", "\\bimport\\b", "\\bthrow\\b", "\\bthrows\\b", "\\btry\\b", "\\bcatch\\b",
        "\\bsynchronized\\b", "\\bassert\\b", "\\bprotected\\b", "\\bvolatile\\b", "\\bnative\\b", "->", "::",
        "\\bSystem\\.(?!arraycopy\\b)", "\\bRandom\\b", "\\bThread\\b", "\\bClass\\b", "\\bObject\\b",
        "Exact\\b", "\\bequals\\b", "\\bhashCode\\b", "\\btoString\\b", "\\bgoto\\b", "\\bvar\\b",
        "while \\(true\\)", "for \\(;", "[^\\x00-\\x7f]",
    };
    private static final Set<String> LIBRARY = Set.of("Math.abs", "Math.max", "Integer.bitCount", "System.arraycopy",
        "Long.MIN_VALUE");
    private static final int MOST_LINES = 60, MOST_PARAMETERS = 7, MOST_CLASSES = 12, MOST_DEEP = 8;

    private LanguageTest() {
    }

    public static void main(String[] args) throws IOException {
        String whole = Files.readString(Path.of("src/main/java/SeenNumbers.java"));
        String text = withoutTexts(whole);
        for (String not : NOT_WRITTEN) {
            Matcher m = Pattern.compile(not).matcher(text);
            Due.holds(not + " is not written", !m.find());
        }
        Due.holds("static fields are final", !Pattern.compile("\\bstatic (?!final\\b)\\w+(\\[\\])* \\w+\\s*[=;,]")
            .matcher(text).find());
        Due.holds("classes inside are static", !Pattern.compile("(?m)^ +(private )?(final )?class\\b")
            .matcher(text).find());
        Due.holds("at most " + MOST_CLASSES + " classes", count(text, "\\b(class|enum|record|interface) \\w+")
            <= MOST_CLASSES);
        library(text);
        methods(text);
        deepCalls(text);
        Due.end(LanguageTest.class);
    }

    private static String withoutTexts(String whole) {
        return whole.replaceAll("(?s)/\\*.*?\\*/", "").replaceAll("//[^\n]*", "")
            .replaceAll("'[^'\n]*'", "' '").replaceAll("\"[^\"\n]*\"", "\"\"");
    }

    private static int count(String text, String what) {
        return (int) Pattern.compile(what).matcher(text).results().count();
    }

    /** A name with a great first letter ahead of a dot is a class; the program's own have no static calls. */
    private static void library(String text) {
        for (Matcher m = Pattern.compile("\\b[A-Z]\\w*[a-z]\\w*\\.\\w+").matcher(text); m.find();) {
            Due.holds(m.group() + " is of the library's part", LIBRARY.contains(m.group()));
        }
    }

    private static Matcher heads(String text) {
        return Pattern.compile("(?m)^( +)(?:(?:public|private|static|final) )*(?!else )[\\w\\[\\]]+ (?!if\\b|for\\b)(\\w+)\\(([^)]*)\\) \\{$")
            .matcher(text);
    }

    /** A method's head ends its line with an opening brace; its end is the brace below its first sign. */
    private static String body(String text, Matcher head) {
        int end = text.indexOf("\n" + head.group(1) + "}", head.end());
        return text.substring(head.end(), end);
    }

    private static void methods(String text) {
        int found = 0;
        for (Matcher m = heads(text); m.find();) {
            found++;
            Due.holds(m.group(2) + " is short", count(body(text, m), "\n") <= MOST_LINES);
            boolean isConstructor = Character.isUpperCase(m.group(2).charAt(0));
            Due.holds(m.group(2) + " makes no object: all calls live in one room",
                isConstructor || count(body(text, m), "\\bnew\\b|\\.clone\\(") == 0);
            Due.holds(m.group(2) + " takes few", m.group(3).split(",").length <= MOST_PARAMETERS);
        }
        Due.holds("methods are found", found > 60);
    }

    /** By the names alone, so that two methods of one name count as one; the library's functions count, too. */
    private static void deepCalls(String text) {
        Map<String, String> bodies = new TreeMap<>();
        for (Matcher m = heads(text); m.find();) {
            bodies.merge(m.group(2), body(text, m), String::concat);
        }
        for (String name : bodies.keySet()) {
            int deep = deep(name, bodies, 1);
            Due.holds(name + " goes " + deep + " deep", deep <= MOST_DEEP);
        }
    }

    /** A recursion would end at the bound, and be too deep. */
    private static int deep(String name, Map<String, String> bodies, int level) {
        if (level > MOST_DEEP || !bodies.containsKey(name)) {
            return level;
        }
        int deepest = level;
        for (Matcher m = Pattern.compile("\\b(\\w+)\\(").matcher(bodies.get(name)); m.find();) {
            if (!m.group(1).matches("if|for|while|switch|return")) {
                deepest = Math.max(deepest, deep(m.group(1), bodies, level + 1));
            }
        }
        return deepest;
    }
}
