import java.io.IOException;
import java.lang.reflect.Method;
import java.lang.reflect.Modifier;
import java.nio.file.Files;
import java.nio.file.Path;
import java.util.List;
import java.util.Set;
import java.util.TreeSet;
import java.util.concurrent.Callable;
import java.util.regex.Matcher;
import java.util.regex.Pattern;

/** That README.md leaves no method out and shows nothing that ReadmeRuns would not compare. */
final class ReadmeTest {
    private static final Due due = new Due("ReadmeTest");
    private static final String[] SMALL = {"Words; x.text(0); // 9", "```java", "static int four() {", "    return 4;", "}",
        "```", "```java", "NinePortraits x = new NinePortraits();", "x.text(0);  // NONE: no \"court\": yet",
        "x.count(3); // 0", "tell(x, \"b;\"); // 2", "```", "```sh", "x.text(0); // 9", "```"};

    public static void main(String[] args) throws IOException {
        List<String> page = Files.readAllLines(Path.of("README.md"));
        everyMethodIsShown(page);
        everyLineIsCompared(page);
        constantsAreShown(page);
        filesAreThere(page);
        boundsAreAsTheTableSays(page);
        smallPage();
        looseLines();
        wrongAnswersAreSeen();
        due.finish();
    }

    private static Set<String> face() {
        Set<String> names = new TreeSet<>();
        for (Method method : NinePortraits.class.getDeclaredMethods()) {
            if (Modifier.isPublic(method.getModifiers())) {
                names.add(method.getName());
            }
        }
        return names;
    }

    private static void everyMethodIsShown(List<String> page) {
        Set<String> called = new TreeSet<>();
        for (Readme.Call call : new Readme(page).calls()) {
            Matcher name = Pattern.compile("x\\.([a-z]+)\\(.*").matcher(call.call());
            if (name.matches()) {
                called.add(name.group(1));
            }
        }
        Set<String> headed = new TreeSet<>();
        for (String line : page) {
            if (line.startsWith("## ")) {
                headed.addAll(List.of(line.substring(line.indexOf(':') + 1).trim().split(", ")));
            }
        }
        for (String name : face()) {
            due.is(name + " is shown with an answer", called.contains(name), true);
            due.is(name + " stands in a headline", headed.contains(name), true);
        }
        due.is("nothing else is called", face().equals(called), true);
    }

    private static void everyLineIsCompared(List<String> page) {
        Readme readme = new Readme(page);
        due.is("lines that are not compared", readme.loose().toString(), "[]");
        due.is("calls are shown", readme.calls().size() > 100, true);
    }

    private static void constantsAreShown(List<String> page) {
        String all = String.join("\n", page);
        due.is("NONE", all.contains("`NONE` (" + NinePortraits.NONE + ")"), true);
        due.is("HIDDEN", all.contains("`HIDDEN` (" + NinePortraits.HIDDEN + ")"), true);
    }

    private static void filesAreThere(List<String> page) {
        Matcher named = Pattern.compile("`((?:\\.\\./|\\.ci/|src/)[A-Za-z/.]+|[A-Z]+\\.md)`").matcher(String.join("\n", page));
        Set<String> files = new TreeSet<>();
        while (named.find()) {
            files.add(named.group(1));
        }
        for (String file : files) {
            due.is(file + " is there", Files.exists(Path.of(file)), true);
        }
        due.is("the class is named", files.contains("src/main/java/NinePortraits.java"), true);
        due.is("the tests are run by", page.contains(".ci/run") && Files.isExecutable(Path.of(".ci/run")), true);
    }

    /** The letters of a clause stand in the table as rule, bride and painter number them. */
    private static void boundsAreAsTheTableSays(List<String> page) {
        int letters = 0;
        for (String line : page) {
            Matcher clause = Pattern.compile("\\| `([sbp])` .*").matcher(line);
            if (!clause.matches()) {
                continue;
            }
            Matcher letter = Pattern.compile("`([a-z])` [a-z ]+ \\(0 to (\\d+); (\\d+)\\)").matcher(line);
            for (int what = 0; letter.find(); what++) {
                letters++;
                String ahead = clause.group(1) + letter.group(1);
                int most = Integer.parseInt(letter.group(2));
                due.is(ahead + " without", told(clause.group(1), what), Integer.parseInt(letter.group(3)));
                due.is(ahead + " at least", told(ahead + "0", what), 0);
                due.is(ahead + " at most", told(ahead + most, what), most);
                due.is(ahead + " beyond", told(ahead + (most + 1), what), -1);
            }
        }
        due.is("letters in the table", letters, 11);
    }

    /** What is told of the one that the clause is about; -1 if it makes no court. */
    private static int told(String clause, int what) {
        NinePortraits x = new NinePortraits();
        Due.feed(x, clause + (clause.startsWith("b") ? "" : ";b") + (clause.startsWith("p") ? "" : ";p"));
        if (x.text(0) < 0) {
            return -1;
        }
        return clause.startsWith("s") ? x.rule(what) : clause.startsWith("b") ? x.bride(0, what) : x.painter(0, what);
    }

    private static void smallPage() {
        Readme readme = new Readme(List.of(SMALL));
        due.is("calls", readme.calls().toString(), "[Call[place=9, call=x.text(0), answer=NONE], "
            + "Call[place=10, call=x.count(3), answer=0], Call[place=11, call=tell(x, \"b;\"), answer=2]]");
        due.is("loose lines", readme.loose().toString(), "[]");
        String program = readme.program();
        due.is("helpers as they are", program.contains("    static int four() {\n        return 4;\n    }\n"), true);
        due.is("a call", program.contains("shown.is(9, \"x.text(0)\", () -> x.text(0), \"NONE\");"), true);
        due.is("a text", program.contains("shown.is(11, \"tell(x, \\\"b;\\\")\", () -> tell(x, \"b;\"), \"2\");"), true);
        due.is("its block is called", program.contains("        block1();\n        shown.finish();\n"), true);
        due.is("helpers are not", program.contains("block0"), false);
    }

    private static void looseLines() {
        String[] loose = {"x.text(0);", "x.text(0); //", "x.text(0); // : why", "int y = x.text(0); // 1", "", "// 3"};
        for (String line : loose) {
            Readme readme = new Readme(List.of("```java", "NinePortraits x = new NinePortraits();", line, "```"));
            due.is("'" + line + "' is loose", readme.loose().toString(), "[3]");
        }
        due.is("no maker", new Readme(List.of("```java", "x.text(0); // 1", "```")).loose().toString(), "[2]");
    }

    private static void wrongAnswersAreSeen() {
        NinePortraits x = new NinePortraits();
        agrees(() -> x.text(0), "NONE", true);
        agrees(() -> x.text(0), "-1", true);
        agrees(() -> x.game(0, 1, 0, 0, 0, 0), "HIDDEN", true);
        agrees(() -> x.end(0), "true", true);
        agrees(() -> x.bride(0, 0), "throws NoSuchElementException", true);
        agrees(() -> x.text(0), "0", false);
        agrees(() -> x.text(0), "HIDDEN", false);
        agrees(() -> x.end(0), "false", false);
        agrees(() -> x.bride(0, 0), "NONE", false);
        agrees(() -> x.text(0), "throws NoSuchElementException", false);
    }

    private static void agrees(Callable<?> asked, String want, boolean should) {
        due.is("an answer shown as " + want, Shown.agrees(asked, want), should);
    }
}
