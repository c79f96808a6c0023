import java.io.IOException;
import java.net.URL;
import java.net.URLClassLoader;
import java.nio.file.DirectoryStream;
import java.nio.file.Files;
import java.nio.file.Path;
import java.util.ArrayList;
import java.util.LinkedHashMap;
import java.util.List;
import java.util.Map;
import java.util.regex.Matcher;
import java.util.regex.Pattern;
import javax.tools.JavaCompiler;
import javax.tools.ToolProvider;

/**
 * README.md shows every call in its group, what it shows with an answer is what
 * the class answers, and it tells of every test. Its examples are one program:
 * they are compiled as they stand, each answer is taken as an expression of Java.
 */
public final class ReadmeTest {
    private static final Path README = Path.of("README.md");
    private static final Path TESTS = Path.of("src/test/java");
    private static final Pattern GROUP = Pattern.compile("Ahead of the calls (.*) the interface says: ---- ([^,]*)[,.].*");
    /** A call with its answer, or the exception that it throws; what stands behind a colon is said to the reader. */
    private static final Pattern SHOWN = Pattern.compile("(?:\\w+ (\\w+) = )?(.*);\\s+// (throws )?([\\w.-]+)(?:: .*)?");
    private static final String MADE = "Layerbook book = new Layerbook();";
    private static final int GROUPS = 3;
    private static final int CALLS = 25;

    private final Check check = new Check();
    private final List<String> lines = Files.readAllLines(README);
    /** By number of the line. */
    private final Map<Integer, String> examples = new LinkedHashMap<>();
    /** By heading. */
    private final Map<String, String> shownUnder = new LinkedHashMap<>();

    private ReadmeTest() throws IOException {
        String heading = "";
        boolean code = false;
        for (int number = 1; number <= lines.size(); number++) {
            String line = lines.get(number - 1);
            if (line.startsWith("```")) {
                code = line.equals("```java");
            } else if (code && !line.isBlank()) {
                examples.put(number, line);
                shownUnder.merge(heading, line, (above, below) -> above + "\n" + below);
            } else if (line.startsWith("#")) {
                heading = line.replaceAll("#+ ", "").toLowerCase();
            }
        }
    }

    public static void main(String[] args) throws Exception {
        ReadmeTest test = new ReadmeTest();
        test.groups();
        test.answers();
        test.tests();
        test.check.end();
    }

    private void groups() throws IOException {
        int groups = 0;
        int calls = 0;
        for (String line : new Document().ahead()) {
            Matcher group = GROUP.matcher(line);
            if (group.matches()) {
                String shown = shownUnder.getOrDefault(group.group(2), "");
                for (String call : group.group(1).replace("`", "").split(", ")) {
                    check.due("the README shows " + call + " under " + group.group(2), Check.bit(shown.contains("book." + call + "(")), 1);
                    calls++;
                }
                groups++;
            }
        }
        check.due("groups of calls in the document", groups, GROUPS);
        check.due("calls in the document's groups", calls, CALLS);
    }

    private void answers() throws Exception {
        List<String> told = told(program());
        int made = 0;
        for (String line : examples.values()) {
            made += line.equals(MADE) ? 1 : 0;
        }
        check.due("objects that the README makes", made, 1);
        check.due("answers that were given", told.size(), 3L * (examples.size() - made));
        for (int index = 0; index + 2 < told.size(); index += 3) {
            int number = Integer.parseInt(told.get(index));
            check.due("README.md, line " + number + ": " + examples.get(number), told.get(index + 1), told.get(index + 2));
        }
    }

    /** A class that makes the calls of all examples and lists line, answer and answer due of each. */
    private String program() {
        StringBuilder source = new StringBuilder("public final class Shown {\n")
            .append("static void tell(java.util.List<String> told, int line, Object answer, Object due) {\n")
            .append("told.add(\"\" + line); told.add(\"\" + answer); told.add(\"\" + due); }\n")
            .append("public static java.util.List<String> told() {\n")
            .append("java.util.List<String> told = new java.util.ArrayList<>();\n");
        for (Map.Entry<Integer, String> example : examples.entrySet()) {
            source.append(statement(example.getKey(), example.getValue())).append('\n');
        }
        return source.append("return told; } }\n").toString();
    }

    private static String statement(int number, String line) {
        Matcher shown = SHOWN.matcher(line);
        if (!shown.matches()) {
            return line;
        }
        String tell = "tell(told, " + number + ", ";
        if (shown.group(3) != null) {
            String due = ", \"" + shown.group(4) + "\");";
            return "try { " + tell + shown.group(2) + due + " } catch (RuntimeException e) { "
                + tell + "e.getClass().getSimpleName()" + due + " }";
        }
        boolean named = shown.group(1) != null;
        return (named ? line + "\n" : "") + tell + shown.group(named ? 1 : 2) + ", " + shown.group(4) + ");";
    }

    private List<String> told(String program) throws Exception {
        Path out = Files.createTempDirectory("readme");
        Path source = out.resolve("Shown.java");
        Files.writeString(source, program);
        JavaCompiler compiler = ToolProvider.getSystemJavaCompiler();
        int failed = compiler.run(null, null, null, "-cp", System.getProperty("java.class.path"), "-d", out.toString(), source.toString());
        check.due("the README's examples do not compile", failed, 0);
        List<String> told = new ArrayList<>();
        if (failed == 0) {
            try (URLClassLoader loader = new URLClassLoader(new URL[] {out.toUri().toURL()})) {
                for (Object word : (List<?>) loader.loadClass("Shown").getMethod("told").invoke(null)) {
                    told.add((String) word);
                }
            }
        }
        delete(out);
        return told;
    }

    private static void delete(Path directory) throws IOException {
        try (DirectoryStream<Path> files = Files.newDirectoryStream(directory)) {
            for (Path file : files) {
                Files.delete(file);
            }
        }
        Files.delete(directory);
    }

    private void tests() throws IOException {
        String all = String.join("\n", lines);
        try (DirectoryStream<Path> files = Files.newDirectoryStream(TESTS, "*Test.java")) {
            for (Path file : files) {
                String name = file.getFileName().toString().replace(".java", "");
                check.due("the README tells what " + name + " tests", Check.bit(all.contains("\n| `" + name + "` |")), 1);
            }
        }
        Matcher told = Pattern.compile("(src|\\.\\./shared)/[\\w/]+\\.\\w+|\\.ci/\\w+").matcher(all);
        while (told.find()) {
            check.due("the README names " + told.group() + ", which is there", Check.bit(Files.exists(Path.of(told.group()))), 1);
        }
    }
}
