import java.io.IOException;
import java.io.UncheckedIOException;
import java.nio.file.Files;
import java.nio.file.Path;
import java.util.ArrayList;
import java.util.Arrays;
import java.util.LinkedHashMap;
import java.util.List;
import java.util.Map;

/** The document's chapters, and how much of them tests have quoted; it is read from the project's folder. */
final class Document {
    private static final Path PLACE = Path.of("../shared/DOC.md");
    private final Map<String, String> chapters = new LinkedHashMap<>();
    private final Map<String, boolean[]> quoted = new LinkedHashMap<>();

    Document() {
        String[] parts = read().split("(?m)^## ");
        for (int i = 1; i < parts.length; i++) {
            int end = parts[i].indexOf('\n');
            String text = parts[i].substring(end).replaceAll("\\s+", " ");
            chapters.put(parts[i].substring(0, end).strip(), text);
            quoted.put(parts[i].substring(0, end).strip(), new boolean[text.length()]);
        }
    }

    private static String read() {
        try {
            return Files.readString(PLACE);
        } catch (IOException e) {
            throw new UncheckedIOException(e);
        }
    }

    /** Marks a sentence of a chapter: whether it stands there. */
    boolean quote(String chapter, String sentence) {
        String text = chapters.getOrDefault(chapter, "");
        int at = text.indexOf(sentence);
        if (at < 0) {
            return false;
        }
        boolean[] marks = quoted.get(chapter);
        for (; at >= 0; at = text.indexOf(sentence, at + 1)) {
            Arrays.fill(marks, at, at + sentence.length(), true);
        }
        return true;
    }

    boolean isQuoted(String chapter) {
        for (boolean mark : quoted.get(chapter)) {
            if (mark) {
                return true;
            }
        }
        return false;
    }

    List<String> chapters() {
        return new ArrayList<>(chapters.keySet());
    }

    /** The pieces of a chapter that no test has quoted. */
    List<String> unquoted(String chapter) {
        String text = chapters.get(chapter);
        boolean[] marks = quoted.get(chapter);
        List<String> pieces = new ArrayList<>();
        int from = 0;
        for (int i = 0; i <= text.length(); i++) {
            if (i == text.length() || marks[i]) {
                if (text.substring(from, i).matches("(?s).*\\w.*")) {
                    pieces.add(text.substring(from, i).strip());
                }
                from = i + 1;
            }
        }
        return pieces;
    }
}
