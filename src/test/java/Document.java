import java.io.IOException;
import java.nio.file.Files;
import java.nio.file.Path;
import java.util.ArrayList;
import java.util.LinkedHashMap;
import java.util.List;
import java.util.Map;

/** The sections of ../shared/DOC.md that the tests quote, and what of them has been quoted. */
final class Document {
    private static final int TERMS = 5;
    private static final int PROMISES = 27;

    private final Map<String, String> texts = new LinkedHashMap<>();
    private final Map<String, boolean[]> quoted = new LinkedHashMap<>();
    private final List<String> face = new ArrayList<>();

    Document() {
        String whole = read(Path.of("../shared/DOC.md"));
        addFace(between(whole, "## The public face", "## Terms"));
        for (int i = 1; i <= TERMS; i++) {
            addSection("Term " + i, between(whole, "==== " + i + ".", i < TERMS ? "==== " + (i + 1) + "." : "## Promise 1:"));
        }
        for (int i = 1; i <= PROMISES; i++) {
            String body = between(whole, "## Promise " + i + ":", i < PROMISES ? "## Promise " + (i + 1) + ":" : "## Not promised");
            addSection("Promise " + i, between(body, "`: ", null));
        }
    }

    /** The lines of the public face, without the sign at their end. */
    List<String> face() {
        return face;
    }

    /** The methods of the public face, as int post(), without the word public. */
    List<String> methods() {
        return face.stream().filter(line -> line.matches("public (int|boolean) .*\\)"))
                .map(line -> line.substring("public ".length())).toList();
    }

    /** Whether the section has this sentence; where it stands is quoted then. */
    boolean quote(String section, String sentence) {
        String text = texts.get(section);
        int at = text == null ? -1 : text.indexOf(sentence);
        if (at < 0) {
            return false;
        }
        for (int i = at; i < at + sentence.length(); i++) {
            quoted.get(section)[i] = true;
        }
        return true;
    }

    /** The words of the sections that nobody has quoted, a line for each section that has some. */
    String unquoted() {
        StringBuilder all = new StringBuilder();
        for (String section : texts.keySet()) {
            String left = unquotedOf(section);
            if (left.chars().anyMatch(Character::isLetterOrDigit)) {
                all.append(section).append(": ").append(left.trim()).append('\n');
            }
        }
        return all.toString();
    }

    private String unquotedOf(String section) {
        StringBuilder left = new StringBuilder();
        String text = texts.get(section);
        for (int i = 0; i < text.length(); i++) {
            if (!quoted.get(section)[i]) {
                left.append(text.charAt(i));
            }
        }
        return left.toString();
    }

    private void addFace(String text) {
        for (String line : text.split("\n")) {
            if (line.trim().endsWith(";")) {
                face.add(line.trim().replace(";", ""));
            }
        }
    }

    private void addSection(String name, String text) {
        String plain = text.replace("```text", " ").replace("```", " ").replaceAll("\\s+", " ").trim();
        texts.put(name, plain);
        quoted.put(name, new boolean[plain.length()]);
    }

    private static String between(String text, String start, String end) {
        int from = text.indexOf(start);
        int to = end == null ? text.length() : text.indexOf(end);
        if (from < 0 || to < from) {
            throw new IllegalStateException("the document has no " + start);
        }
        return text.substring(from + start.length(), to);
    }

    static String read(Path path) {
        try {
            return Files.readString(path);
        } catch (IOException e) {
            throw new IllegalStateException("can't read " + path, e);
        }
    }
}
