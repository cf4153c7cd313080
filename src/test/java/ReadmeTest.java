import java.net.URL;
import java.net.URLClassLoader;
import java.nio.file.Files;
import java.nio.file.Path;
import java.util.ArrayList;
import java.util.List;
import java.util.regex.Matcher;
import java.util.regex.Pattern;
import javax.tools.ToolProvider;

/** The lines of Java in README.md are one run, and each answers what stands behind it. */
public final class ReadmeTest {
    private static final Pattern CALL =
            Pattern.compile("(?:int \\w+ = )?(room\\.(\\w+)\\(.*\\));\\s+// (-?\\d+|true|false)\\b.*");
    private static final String[] CALLS = {"hand", "shelf", "seals", "thing", "pass", "slip", "fault", "handing",
        "yes", "no", "about", "slipOf", "where", "chain", "gap", "breaks", "due", "freeze", "alter", "check", "thaw"};

    private ReadmeTest() {
    }

    public static void main(String[] args) throws Exception {
        Expect expect = new Expect();
        StringBuilder names = new StringBuilder(" ");
        String source = runOf(Files.readAllLines(Path.of("README.md")), names, expect);
        for (String call : CALLS) {
            expect.yes("the page shows " + call, names.indexOf(" " + call + " ") >= 0);
        }
        runLines(source, expect);
        expect.end();
    }

    private static String runOf(List<String> lines, StringBuilder names, Expect expect) {
        StringBuilder source = new StringBuilder("public final class ReadmeLines {\n"
                + "public static void tell(java.util.List<String> answers) {\n");
        boolean code = false;
        for (String line : lines) {
            if (line.startsWith("```")) {
                code = line.equals("```java");
            } else if (code) {
                Matcher call = CALL.matcher(line);
                boolean answers = call.matches();
                source.append(answers ? withAnswer(line, call) : line).append('\n');
                names.append(answers ? call.group(2) + " " : "");
                expect.no("a call without its answer: " + line, !answers && line.contains("room."));
            }
        }
        return source.append("}\n}\n").toString();
    }

    /** The line's call, its answer kept by the name the line gives it, and put beside the one due. */
    private static String withAnswer(String line, Matcher call) {
        boolean named = line.startsWith("int ");
        String name = named ? line.substring(4, line.indexOf(" =")) : call.group(1);
        String ahead = named ? "int " + name + " = " + call.group(1) + "; " : "";
        return ahead + "answers.add(\"" + call.group(1) + "\"); answers.add(String.valueOf(" + name
                + ")); answers.add(\"" + call.group(3) + "\");";
    }

    private static void runLines(String source, Expect expect) throws Exception {
        Path folder = Files.createTempDirectory("readme");
        Path file = folder.resolve("ReadmeLines.java");
        Path compiled = folder.resolve("ReadmeLines.class");
        try {
            Files.writeString(file, source);
            int failed = ToolProvider.getSystemJavaCompiler().run(null, null, null, "-cp",
                    System.getProperty("java.class.path"), "-d", folder.toString(), file.toString());
            expect.same("the lines compile", failed, 0);
            if (failed == 0) {
                compare(folder, expect);
            }
        } finally {
            Files.deleteIfExists(file);
            Files.deleteIfExists(compiled);
            Files.deleteIfExists(folder);
        }
    }

    private static void compare(Path folder, Expect expect) throws Exception {
        List<String> answers = new ArrayList<>();
        try (URLClassLoader loader = new URLClassLoader(new URL[] {folder.toUri().toURL()})) {
            loader.loadClass("ReadmeLines").getMethod("tell", List.class).invoke(null, answers);
        }
        for (int i = 0; i + 2 < answers.size(); i += 3) {
            String told = answers.get(i) + " answered " + answers.get(i + 1) + ", README.md says " + answers.get(i + 2);
            expect.yes(told, answers.get(i + 1).equals(answers.get(i + 2)));
        }
    }
}
