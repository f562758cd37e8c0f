import java.io.IOException;
import java.io.UncheckedIOException;
import java.nio.file.Files;
import java.nio.file.Path;
import java.util.ArrayList;
import java.util.List;

/** The lines of a page, and the blocks of code in it. */
final class Page {
    static final String DOCUMENT = "../shared/DOC.md";
    static final String README = "README.md";
    static final String SOURCE = "src/main/java/ExamGarden.java";

    private static final String FENCE = "```";

    final List<String> lines;

    Page(String path) {
        try {
            lines = Files.readAllLines(Path.of(path));
        } catch (IOException thrown) {
            throw new UncheckedIOException(thrown);
        }
    }

    /** The blocks of one language, each with its lines. */
    List<List<String>> blocks(String language) {
        List<List<String>> found = new ArrayList<>();
        boolean isInside = false;
        boolean isMeant = false;
        for (String line : lines) {
            if (line.startsWith(FENCE)) {
                isMeant = !isInside && line.equals(FENCE + language);
                isInside = !isInside;
                if (isMeant) {
                    found.add(new ArrayList<>());
                }
            } else if (isMeant) {
                found.get(found.size() - 1).add(line);
            }
        }
        return found;
    }

    /** The declarations of the document's methods, as they stand there. */
    static List<String> face() {
        List<String> found = new ArrayList<>();
        for (String line : new Page(DOCUMENT).blocks("java").get(0)) {
            if (line.startsWith("    public ")) {
                found.add(line.trim());
            }
        }
        return found;
    }
}
