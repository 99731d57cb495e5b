import java.nio.file.Path;
import java.util.ArrayList;
import java.util.List;
import java.util.regex.Matcher;
import java.util.regex.Pattern;

/** What README.md shows: pieces of Java, lines to type, and the rows of its tables. */
final class Readme {
    /** A row of a table, without the marks of code; the table is told by its first head. */
    record Row(String table, List<String> cells) {
    }

    private final List<String> code = new ArrayList<>();
    private final List<String> typed = new ArrayList<>();
    private final List<Row> rows = new ArrayList<>();

    Readme() {
        this(Document.read(Path.of("README.md")));
    }

    Readme(String text) {
        boolean isCode = false;
        String table = null;
        for (String line : text.split("\n")) {
            if (line.startsWith("```")) {
                isCode = line.equals("```java");
            } else if (isCode) {
                code.add(line);
            } else if (line.startsWith("    ")) {
                typed.add(line.trim());
            } else if (line.startsWith("|")) {
                table = addRow(table, line);
            } else {
                table = null;
            }
        }
    }

    /** All pieces of Java, one behind the other. */
    List<String> code() {
        return code;
    }

    /** The one line to type that matches. */
    String typed(String pattern) {
        List<String> found = typed.stream().filter(line -> line.matches(pattern)).toList();
        if (found.size() != 1) {
            throw new IllegalStateException("README.md has " + found.size() + " lines to type like " + pattern);
        }
        return found.get(0);
    }

    /** The rows of the table with this first head. */
    List<List<String>> rows(String table) {
        return rows.stream().filter(row -> row.table().equals(table)).map(Row::cells).toList();
    }

    private String addRow(String table, String line) {
        List<String> cells = new ArrayList<>();
        Matcher cell = Pattern.compile("\\|([^|]*)(?=\\|)").matcher(line);
        while (cell.find()) {
            cells.add(cell.group(1).replace("`", "").trim());
        }
        if (table == null) {
            return cells.get(0);
        }
        if (!cells.get(0).matches("-+")) {
            rows.add(new Row(table, cells));
        }
        return table;
    }
}
