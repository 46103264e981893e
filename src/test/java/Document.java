import java.io.IOException;
import java.io.UncheckedIOException;
import java.nio.file.Files;
import java.nio.file.Path;

/** The words of the document, by promise, and which of them a test was written for. */
final class Document {
    /** All that stands ahead of the promises but the face. */
    static final int TERMS = 0;
    static final int PROMISES = 21;

    private final String[] parts = new String[PROMISES + 1];
    private final boolean[][] named = new boolean[PROMISES + 1][];
    private final String face;

    Document() {
        String text = read();
        face = between(text, "```java\n", "```");
        parts[TERMS] = between(text, "## What it is", "## The public face")
                + between(text, "## Terms", "## Promise 1:").replaceAll("```(text)?", "");
        parts[TERMS] = parts[TERMS].replaceAll("==== \\d\\.", "");
        for (int promise = 1; promise <= PROMISES; promise++) {
            String part = between(text, "## Promise " + promise + ":", "\n## ");
            // behind the heading and the signature
            parts[promise] = part.substring(part.indexOf("`: ") + 3);
        }
        for (int part = 0; part <= PROMISES; part++) {
            parts[part] = parts[part].replaceAll("\\s+", " ").trim();
            named[part] = new boolean[parts[part].length()];
        }
    }

    private static String read() {
        try {
            return Files.readString(Path.of(System.getProperty("desk.document", "../shared/DOC.md")));
        } catch (IOException e) {
            throw new UncheckedIOException(e);
        }
    }

    private static String between(String text, String start, String end) {
        int from = text.indexOf(start) + start.length();
        return text.substring(from, text.indexOf(end, from));
    }

    /** The class's face as the document writes it, in Java. */
    String face() {
        return face;
    }

    /** Whether the words stand there; they are named then. */
    boolean name(int part, String words) {
        int place = parts[part].indexOf(words);
        for (int i = place; i >= 0 && i < place + words.length(); i++) {
            named[part][i] = true;
        }
        return place >= 0;
    }

    /** What no test has named, without the points and commas between. */
    String unnamed(int part) {
        StringBuilder left = new StringBuilder();
        for (int i = 0; i < named[part].length; i++) {
            left.append(named[part][i] ? ' ' : parts[part].charAt(i));
        }
        return left.toString().replaceAll("[ .,:;]+", " ").trim();
    }
}
