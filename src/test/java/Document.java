import java.io.IOException;
import java.nio.file.Files;
import java.nio.file.Path;
import java.util.ArrayList;
import java.util.List;

/** The document's own words, so that no test names a sentence that it does not have, and none is left without a test. */
final class Document {
    private static final Path FILE = Path.of("../shared/DOC.md");
    private static final int PROMISES = 26;
    /** What only leads to other sentences. */
    private static final List<String> LEADS = List.of("An inventory valuation:", "Ahead of the calls");
    private static final String REFERENCE = "Landed costs: see below.";

    /** By promise; row 0 is what stands ahead of promise 1. */
    private final List<List<String>> lines = rows();
    private final List<List<String>> named = rows();
    private final List<String> face = new ArrayList<>();

    Document() throws IOException {
        int promise = 0;
        boolean code = false;
        for (String line : Files.readAllLines(FILE)) {
            if (line.startsWith("## Not promised")) {
                break;
            }
            code ^= line.startsWith("```");
            if (code && line.startsWith("    public ")) {
                face.add(line.trim());
            }
            if (line.startsWith("## Promise ")) {
                promise = Integer.parseInt(line.substring(11, line.indexOf(':')));
            } else if (!code && !line.isBlank() && !line.startsWith("#") && !line.startsWith("```")) {
                lines.get(promise).add(line);
            }
        }
    }

    private static List<List<String>> rows() {
        List<List<String>> rows = new ArrayList<>();
        for (int promise = 0; promise <= PROMISES; promise++) {
            rows.add(new ArrayList<>());
        }
        return rows;
    }

    /** The lines of the public face, without the class itself. */
    List<String> face() {
        return face;
    }

    /** What stands ahead of promise 1. */
    List<String> ahead() {
        return lines.get(0);
    }

    /** Notes that a test is for these words, and tells whether the promise has them. */
    boolean says(int promise, String words) {
        named.get(promise).add(words);
        return lines.get(promise).stream().anyMatch(line -> line.contains(words));
    }

    /** What no test was named for. */
    List<String> untested() {
        List<String> untested = new ArrayList<>();
        for (int promise = 0; promise <= PROMISES; promise++) {
            named.get(promise).sort((a, b) -> b.length() - a.length());
            for (String line : lines.get(promise)) {
                if (LEADS.stream().noneMatch(line::startsWith) && !isNamed(promise, line)) {
                    untested.add("promise " + promise + ": " + line);
                }
            }
        }
        return untested;
    }

    private boolean isNamed(int promise, String line) {
        String rest = line.replace(REFERENCE, "");
        if (promise > 0) {
            rest = rest.replaceAll("^`[^`]*`: |^Throws `\\w+` if ", "");
        }
        for (String words : named.get(promise)) {
            rest = rest.replace(words, " ");
        }
        return rest.replaceAll("\\bor\\b|\\W", "").isEmpty();
    }
}
