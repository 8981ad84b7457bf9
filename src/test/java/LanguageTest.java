import java.io.IOException;
import java.nio.file.Files;
import java.nio.file.Path;
import java.util.List;

/** What of ../shared/LANGUAGE.md can be seen in the lines of the source. */
final class LanguageTest {
    private static final Due due = new Due("LanguageTest");
    private static final String[] FORBIDDEN = {"->", "::", " try ", " catch ", "finally", "synchronized", "assert ",
        "package ", "String.format", "System.out", "System.nano", "System.current", "Random", "Exact(", "hashCode",
        "toString", "extends Exception", "@", "static {"};

    public static void main(String[] args) throws IOException {
        List<String> lines = Files.readAllLines(Path.of("src/main/java/NinePortraits.java"));
        int from = -1;
        String head = "";
        for (int i = 0; i < lines.size(); i++) {
            String line = lines.get(i);
            for (String word : FORBIDDEN) {
                due.is("line " + (i + 1) + " has " + word, line.contains(word), false);
            }
            due.is("line " + (i + 1) + " is of plain signs", line.chars().allMatch(c -> c >= 32 && c < 127), true);
            if (line.startsWith("import ")) {
                due.is("line " + (i + 1) + " " + line,
                    line.equals("import java.util.Arrays;") || line.equals("import java.util.NoSuchElementException;"), true);
            }
            if (line.endsWith(") {") && (line.matches(" {4}[a-zA-Z].*") || line.matches(" {8}[a-zA-Z].*"))
                    && !line.matches(" *(if|for|while|switch|else).*")) {
                from = i;
                head = line.trim();
            }
            if ((line.equals("    }") || line.equals("        }")) && from >= 0 && indent(lines.get(from)) == indent(line)) {
                due.is(head + " has some sixty lines at most", i - from + 1 <= 60, true);
                from = -1;
            }
        }
        due.finish();
    }

    private static int indent(String line) {
        return line.length() - line.stripLeading().length();
    }
}
