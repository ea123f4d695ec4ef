import java.io.IOException;
import java.nio.charset.StandardCharsets;
import java.nio.file.Files;
import java.nio.file.Path;
import java.util.ArrayList;
import java.util.List;

/**
 * The examples of README.md: each line that asks the table stands here too, in the same order, and
 * answers what its comment tells.
 */
public final class ReadmeTests {
    private static final List<String> lines = new ArrayList<>();
    private static int wrong = 0;

    public static void main(String[] args) throws IOException {
        for (String line : Files.readAllLines(Path.of("README.md"), StandardCharsets.UTF_8)) {
            if (line.startsWith("table.") || line.startsWith("String text")) {
                lines.add(line);
            }
        }
        calls();
        texts();
        for (String line : lines) {
            fail("README.md shows a line that is not tested: " + line);
        }
        if (wrong != 0) {
            System.exit(1);
        }
        System.out.println("the examples of README.md hold");
    }

    private static void calls() {
        CausalTable table = new CausalTable();
        shown("put(0, 2, CausalTable.SIBLINGS, 5)", table.put(0, 2, CausalTable.SIBLINGS, 5));
        shown("put(1, 2, CausalTable.SIBLINGS, 7)", table.put(1, 2, CausalTable.SIBLINGS, 7));
        shown("relation(0, 1)", table.relation(0, 1));
        shown("ifMerged(0, 1, 2)", table.ifMerged(0, 1, 2));
        shown("merge(0, 1)", table.merge(0, 1));
        shown("sibling(1, 2, 0)", table.sibling(1, 2, 0));
        shown("sibling(1, 2, 1)", table.sibling(1, 2, 1));
        shown("conflicts(1)", table.conflicts(1));
        shown("put(1, 2, CausalTable.SIBLINGS, 6)", table.put(1, 2, CausalTable.SIBLINGS, 6));
        shown("undo()", table.undo());
        shown("sibling(1, 2, 1)", table.sibling(1, 2, 1));
    }

    private static void texts() {
        CausalTable table = new CausalTable();
        String text = nextLine();
        text = text.substring(text.indexOf('"') + 1, text.lastIndexOf('"'));
        for (int i = 0; i < text.length(); i++) {
            table.appendText(text.charAt(i));
        }
        shown("errorPosition()", table.errorPosition());
        shown("runText()", table.runText());
        shown("sibling(1, 2, 0)", table.sibling(1, 2, 0));
        shown("counter(1, 2)", table.counter(1, 2));
        shown("undo()", table.undo());
        shown("clearText()", table.clearText());
    }

    /** The next line asks for this call, and its comment begins with this answer. */
    private static void shown(String call, int answer) {
        String line = nextLine();
        if (!line.matches("table\\.\\Q" + call + ";\\E +// " + answer + "(:.*)?")) {
            fail("table." + call + " answers " + answer + ", README.md shows: " + line);
        }
    }

    private static String nextLine() {
        return lines.isEmpty() ? "\"\"" : lines.remove(0);
    }

    private static void fail(String message) {
        wrong++;
        System.out.println(message);
    }
}
