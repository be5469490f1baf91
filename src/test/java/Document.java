import java.io.IOException;
import java.nio.file.Files;
import java.nio.file.Path;
import java.util.ArrayList;
import java.util.List;

/** The words of ../shared/DOC.md, part by part. */
final class Document {
    /** What stands under one heading, without the lines of a fence, each stretch of blanks as one. */
    static final class Part {
        final String heading;
        /** What a promise names first, between its first two backquotes; empty for all else. */
        final String method;
        final String words;

        Part(String heading, String all) {
            this.heading = heading;
            int end = promise() == 0 ? -1 : all.indexOf("`: ");
            method = end < 0 ? "" : all.substring(1, end);
            words = end < 0 ? all : all.substring(end + 3);
        }

        /** The number of a promise, 0 for what is told before them. */
        int promise() {
            return heading.startsWith("Promise ") ? Integer.parseInt(heading.substring(8, heading.indexOf(':'))) : 0;
        }
    }

    final List<Part> parts = new ArrayList<>();

    private Document() {
    }

    /** Null if it is not where the project is told to find it. */
    static Document below(Path root) throws IOException {
        Path file = root.resolve("../shared/DOC.md");
        if (!Files.isRegularFile(file)) {
            return null;
        }
        Document made = new Document();
        String heading = "";
        StringBuilder words = new StringBuilder();
        for (String line : Files.readAllLines(file)) {
            if (line.startsWith("#")) {
                made.add(heading, words);
                heading = line.replaceFirst("#+ *", "");
                words.setLength(0);
            } else if (!line.startsWith("```")) {
                words.append(' ').append(line);
            }
        }
        made.add(heading, words);
        return made;
    }

    private void add(String heading, StringBuilder words) {
        String plain = words.toString().replaceAll("\\s+", " ").trim();
        if (!plain.isEmpty()) {
            parts.add(new Part(heading, plain));
        }
    }

    Part named(String heading) {
        for (Part part : parts) {
            if (part.heading.equals(heading)) {
                return part;
            }
        }
        return new Part(heading, "");
    }
}
