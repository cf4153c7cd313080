import java.io.IOException;
import java.nio.file.Files;
import java.nio.file.Path;
import java.util.BitSet;
import java.util.LinkedHashMap;
import java.util.Map;
import java.util.function.Consumer;

/**
 * The document's sentences, each with the test that is its own. A sentence is named by its very words,
 * so that it can be found again; words of the document that nobody has named make the test fail.
 */
final class Document {
    private static final Path PAGE = Path.of("../shared/DOC.md");

    private final Map<String, String> texts = new LinkedHashMap<>();
    private final Map<String, BitSet> named = new LinkedHashMap<>();
    private final Expect expect = new Expect();
    private String section = "";
    private int sentences;

    Document() throws IOException {
        boolean code = false;
        String name = "";
        for (String line : Files.readAllLines(PAGE)) {
            if (line.startsWith("```")) {
                code = line.equals("```java");
            } else if (line.startsWith("## ")) {
                name = line.substring(3).replaceFirst(":.*", "");
            } else if (line.startsWith("==== ")) {
                name = "Terms " + line.substring(5, line.indexOf('.'));
                append(name, line.substring(line.indexOf('.') + 1));
            } else if (!code) {
                // A promise begins with the method's head, which FaceTest holds.
                append(name, line.replaceFirst("^`[^`]*`: ", ""));
            }
        }
        texts.remove("");
        texts.remove("Not promised");
    }

    private void append(String name, String line) {
        String text = texts.getOrDefault(name, "") + " " + line;
        texts.put(name, text.replaceAll("\\s+", " "));
        named.putIfAbsent(name, new BitSet());
    }

    void section(String name) {
        section = name;
        expect.under(name + ": ");
        expect.yes("the document has it", texts.containsKey(name));
    }

    /** A sentence that names a boundary case, and its test. */
    void holds(String sentence, Consumer<Expect> test) {
        name(sentence);
        sentences++;
        expect.under(section + " '" + sentence + "': ");
        int before = expect.asked();
        try {
            test.accept(expect);
        } catch (RuntimeException thrown) {
            // No call may throw; the other sentences are tested all the same.
            expect.yes("no call throws " + thrown, false);
        }
        expect.yes("the sentence is tested", expect.asked() > before);
    }

    /** Words that name no boundary case of their own. */
    void tells(String words) {
        name(words);
    }

    private void name(String words) {
        expect.under(section + " '" + words + "': ");
        String text = texts.getOrDefault(section, "");
        int at = text.indexOf(words);
        expect.yes("the document says it", at >= 0);
        expect.yes("it says it once", at == text.lastIndexOf(words));
        if (at >= 0) {
            named.get(section).set(at, at + words.length());
        }
    }

    void end() {
        for (String name : texts.keySet()) {
            expect.under(name + ": ");
            expect.same("words without a test: " + unnamed(name), unnamed(name).length(), 0);
        }
        System.out.println(sentences + " sentences have a test of their own");
        expect.under("");
        expect.end();
    }

    private String unnamed(String name) {
        String text = texts.get(name);
        StringBuilder left = new StringBuilder();
        for (int i = 0; i < text.length(); i++) {
            if (!named.get(name).get(i) && Character.isLetterOrDigit(text.charAt(i))) {
                left.append(text.charAt(i));
            } else if (left.length() > 0 && left.charAt(left.length() - 1) != ' ') {
                left.append(' ');
            }
        }
        return left.toString();
    }
}
