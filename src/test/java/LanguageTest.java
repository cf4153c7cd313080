import java.io.IOException;
import java.nio.file.Files;
import java.nio.file.Path;
import java.util.List;
import java.util.regex.Matcher;
import java.util.regex.Pattern;

/** The rules of LANGUAGE.md that a look at the source can tell; it runs in the project's folder. */
public final class LanguageTest {
    private static final Expect expect = new Expect();
    private static final String[] FORBIDDEN = {"throw", "throws", "try", "catch", "finally", "synchronized",
        "assert", "instanceof", "package", "protected", "volatile", "native", "double", "float", "String",
        "equals", "hashCode", "toString", "Exact", "Random", "Thread", "->", "::", "@"};
    private static final int LONGEST_METHOD = 60;

    public static void main(String[] args) throws IOException {
        List<String> lines = Files.readAllLines(Path.of("src/main/java/CustodyRoom.java"));
        StringBuilder code = new StringBuilder();
        int started = 0;
        int classes = 0;
        for (int n = 0; n < lines.size(); n++) {
            String line = lines.get(n);
            String bare = withoutComment(line);
            code.append(bare).append('\n');
            if (bare.contains("import ")) {
                expect.yes("the library: " + line, line.equals("import java.util.Arrays;"));
            }
            if (bare.matches(".*\\bclass\\b.*")) {
                classes++;
            } else if (bare.matches("( {4}| {8})\\w.*\\) \\{")) {
                started = n;
            } else if (bare.matches("( {4}| {8})\\}")) {
                expect.yes("a short method ends in line " + (n + 1), n - started < LONGEST_METHOD || bare.length() == 5);
            }
            for (int k = 0; k < line.length(); k++) {
                expect.yes("plain signs in line " + (n + 1), line.charAt(k) < 127);
            }
        }
        expect.yes("at most twelve classes", classes <= 12);
        for (String word : FORBIDDEN) {
            boolean isName = Character.isLetter(word.charAt(0));
            Pattern pattern = Pattern.compile(isName ? "\\b\\w*" + word + "\\b" : Pattern.quote(word));
            Matcher matcher = pattern.matcher(code);
            boolean found = false;
            while (matcher.find()) {
                found = found || !isName || matcher.group().equals(word) || word.equals("Exact");
            }
            expect.no("the word " + word, found);
        }
        expect.end();
    }

    private static String withoutComment(String line) {
        String bare = line.strip();
        if (bare.startsWith("//") || bare.startsWith("/*") || bare.startsWith("*")) {
            return "";
        }
        int at = line.indexOf("//");
        return at < 0 ? line : line.substring(0, at);
    }
}
