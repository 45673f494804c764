import java.io.IOException;
import java.io.UncheckedIOException;
import java.nio.file.Files;
import java.nio.file.Path;
import java.util.ArrayList;
import java.util.List;

/** ../shared/DOC.md, for tests that quote it; they run from the project's folder, as .ci/run does. */
final class Document {
    private static final String TEXT = text();
    private static final String WORDS = oneBlank(TEXT);

    private Document() {
    }

    private static String text() {
        try {
            return Files.readString(Path.of("../shared/DOC.md"));
        } catch (IOException e) {
            throw new UncheckedIOException(e);
        }
    }

    private static String oneBlank(String text) {
        return text.replaceAll("\\s+", " ");
    }

    /** Whether it has these words just so, wherever its lines end. */
    static boolean says(String words) {
        return WORDS.contains(oneBlank(words));
    }

    /** The lines of its public face, without what closes them. */
    static List<String> face() {
        List<String> lines = new ArrayList<>();
        for (String line : TEXT.substring(TEXT.indexOf("```java"), TEXT.indexOf("## Terms")).split("\n")) {
            if (line.strip().startsWith("public ")) {
                lines.add(line.strip().replaceAll(" ?[;{]$", ""));
            }
        }
        return lines;
    }
}
