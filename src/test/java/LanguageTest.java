import java.io.IOException;
import java.nio.charset.StandardCharsets;
import java.nio.file.Files;
import java.nio.file.Path;
import java.util.regex.Matcher;
import java.util.regex.Pattern;

/**
 * What a search in the text can tell of shared/LANGUAGE.md: words that the rules leave out, names of the library, and
 * lengths. It is no proof that the rules hold.
 */
public final class LanguageTest {
    private static final String[] LEFT_OUT = {"->", "::", "finally", "synchronized", "assert", "volatile", "transient",
        "native", "strictfp", "catch", "package", "instanceof", "System.out", "Thread", "Random", "nanoTime",
        "currentTimeMillis", "hashCode", "equals", "toString", "protected", "getClass", "@"};
    private static final String LIBRARY = "Long\\.bitCount|Math\\.min|Math\\.max|Math\\.abs|System\\.arraycopy";
    private static final int MOST_LINES = 60;
    private static final int MOST_CLASSES = 12;
    private static final int MOST_PARAMETERS = 7;

    public static void main(String[] args) throws IOException {
        byte[] bytes = Files.readAllBytes(Path.of(args.length > 0 ? args[0] : "src/main/java/RingStones.java"));
        String text = new String(bytes, StandardCharsets.ISO_8859_1);
        boolean plain = text.chars().allMatch(c -> c == '\n' || c >= 32 && c < 127);
        Due.holds("the file has plain signs alone", plain);
        String code = text.replaceAll("(?s)/\\*.*?\\*/", "").replaceAll("//[^\n]*", "").replaceAll("\"[^\"]*\"", "T");
        words(code);
        library(code);
        lengths(code);
        Due.end();
    }

    private static void words(String code) {
        for (String word : LEFT_OUT) {
            String whole = (word.matches("\\w.*") ? "\\b" : "") + Pattern.quote(word) + (word.matches(".*[a-z]") ? "\\b" : "");
            Due.gives(word, "", () -> all(whole, code));
        }
        Due.gives("the imports", "import java.util.NoSuchElementException;", () -> all("import [^;]*;", code));
        Due.gives("static fields that are not final", "", () -> all("static (?!final|int|long|void|boolean)\\w+ \\w+ *[=;]", code));
        Due.gives("texts joined by +", "", () -> all("T \\+|\\+ T", code));
        Due.holds("few classes", all("\\b(?:class|interface|enum|record) \\w+", code).split(",").length <= MOST_CLASSES);
    }

    private static void library(String code) {
        String used = all("\\b(?:Long|Math|System|Integer|Arrays|String|StringBuilder|List|ArrayList)\\.\\w+", code);
        for (String name : used.split(",")) {
            Due.holds("the library has " + name, name.isEmpty() || name.matches(LIBRARY));
        }
        for (String name : all("new \\w+(?=\\()", code).split(",")) {
            Due.holds(name, name.matches("new (Game|Reader|Board|Grid|Positions|\\w+Exception)"));
        }
    }

    private static void lengths(String code) {
        Matcher m = Pattern.compile("(?m)^( +)[\\w\\[\\] ]*?(\\w+)\\(([^()]*)\\)[\\w, ]*\\{\n(?s:(.*?))^\\1\\}").matcher(code);
        int methods = 0;
        while (m.find()) {
            methods++;
            String name = m.group(2);
            Due.holds(name + " is short", m.group(4).split("\n").length <= MOST_LINES);
            Due.holds(name + " takes few parameters", m.group(3).split(",").length <= MOST_PARAMETERS);
        }
        Due.holds("the methods were found", methods > 80);
    }

    private static String all(String pattern, String code) {
        StringBuilder found = new StringBuilder();
        Matcher m = Pattern.compile(pattern).matcher(code);
        while (m.find()) {
            found.append(found.length() > 0 ? "," : "").append(m.group());
        }
        return found.toString();
    }
}
