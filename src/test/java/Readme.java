import java.io.IOException;
import java.nio.file.Files;
import java.nio.file.Path;
import java.util.ArrayList;
import java.util.List;
import java.util.regex.Matcher;
import java.util.regex.Pattern;

/**
 * Makes a program of the java blocks of README.md: ReadmeRuns, which makes every call that is shown
 * there and compares its answer. A block that begins with "static" is helpers for the others.
 */
final class Readme {
    static final String NAME = "ReadmeRuns";
    private static final Pattern MAKES = Pattern.compile("NinePortraits x = new NinePortraits\\(\\);");
    private static final Pattern CALLS = Pattern.compile("((?:x\\.[a-z]+|tell)\\(.*\\));\\s*//\\s*([^:]*?)\\s*(?::.*)?");

    /** A line of a block, with the place at which README.md has it (from 1). */
    record Line(int place, String text) {
    }

    /** A call with the answer that is shown. */
    record Call(int place, String call, String answer) {
    }

    private final List<List<Line>> blocks = new ArrayList<>();

    Readme(List<String> lines) {
        List<Line> block = null;
        for (int i = 0; i < lines.size(); i++) {
            String line = lines.get(i);
            if (block != null && line.startsWith("```")) {
                block = null;
            } else if (block != null) {
                block.add(new Line(i + 1, line));
            } else if (line.equals("```java")) {
                block = new ArrayList<>();
                blocks.add(block);
            }
        }
    }

    private static boolean helps(List<Line> block) {
        return !block.isEmpty() && block.get(0).text().startsWith("static ");
    }

    /** The call of a line, null if it shows none with its answer. */
    private static Call callOf(Line line) {
        Matcher found = CALLS.matcher(line.text());
        boolean shown = found.matches() && !found.group(2).isEmpty();
        return shown ? new Call(line.place(), found.group(1), found.group(2)) : null;
    }

    List<Call> calls() {
        List<Call> calls = new ArrayList<>();
        for (List<Line> block : blocks) {
            for (Line line : block) {
                Call call = helps(block) ? null : callOf(line);
                if (call != null) {
                    calls.add(call);
                }
            }
        }
        return calls;
    }

    /** Places of lines that nothing would compare: neither the maker that leads a block nor a call with its answer. */
    List<Integer> loose() {
        List<Integer> places = new ArrayList<>();
        for (List<Line> block : blocks) {
            for (int i = 0; i < block.size() && !helps(block); i++) {
                Line line = block.get(i);
                boolean good = i == 0 ? MAKES.matcher(line.text()).matches() : callOf(line) != null;
                if (!good) {
                    places.add(line.place());
                }
            }
        }
        return places;
    }

    String program() {
        StringBuilder made = new StringBuilder("final class " + NAME + " {\n");
        made.append("    private static final Shown shown = new Shown(\"").append(NAME).append("\");\n\n");
        StringBuilder main = new StringBuilder();
        for (int i = 0; i < blocks.size(); i++) {
            List<Line> block = blocks.get(i);
            if (helps(block)) {
                addAsItIs(block, made);
            } else {
                addCalls(block, i, made);
                main.append("        block").append(i).append("();\n");
            }
        }
        made.append("    public static void main(String[] args) {\n").append(main);
        return made.append("        shown.finish();\n    }\n}\n").toString();
    }

    private static void addAsItIs(List<Line> block, StringBuilder made) {
        for (Line line : block) {
            made.append("    ").append(line.text()).append('\n');
        }
        made.append('\n');
    }

    private static void addCalls(List<Line> block, int number, StringBuilder made) {
        made.append("    private static void block").append(number).append("() {\n");
        for (Line line : block) {
            Call call = callOf(line);
            made.append("        ");
            if (call == null) {
                made.append(line.text());
            } else {
                made.append("shown.is(").append(call.place()).append(", ").append(quoted(call.call())).append(", () -> ")
                    .append(call.call()).append(", ").append(quoted(call.answer())).append(");");
            }
            made.append('\n');
        }
        made.append("    }\n\n");
    }

    private static String quoted(String text) {
        return '"' + text.replace("\\", "\\\\").replace("\"", "\\\"") + '"';
    }

    /** Arguments: the page, the directory into which the program is written. */
    public static void main(String[] args) throws IOException {
        Readme readme = new Readme(Files.readAllLines(Path.of(args[0])));
        Files.writeString(Path.of(args[1], NAME + ".java"), readme.program());
    }
}
