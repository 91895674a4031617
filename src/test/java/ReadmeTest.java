import java.io.File;
import java.io.IOException;
import java.nio.file.Files;
import java.nio.file.Path;
import java.util.List;
import java.util.TreeSet;
import java.util.regex.Matcher;
import java.util.regex.Pattern;

/** README.md says what is so: its example answers what stands there, its tests are those that there are. */
public final class ReadmeTest {
    private static final Check CHECK = new Check();

    private final List<String> example;
    private int line = 0;

    private ReadmeTest(List<String> example) {
        this.example = example;
    }

    public static void main(String[] args) throws IOException {
        String text = Files.readString(Path.of("README.md"));
        new ReadmeTest(exampleIn(text)).answers();
        CHECK.due("tests that are named", testsThere(), () -> testsNamed(text));
        CHECK.end("ReadmeTest");
    }

    private static List<String> exampleIn(String text) {
        int start = text.indexOf("```java\n") + 8;
        return List.of(text.substring(start, text.indexOf("```", start)).split("\n"));
    }

    private static TreeSet<String> testsThere() {
        TreeSet<String> names = new TreeSet<>();
        for (String name : new File("src/test/java").list()) {
            if (name.endsWith("Test.java")) {
                names.add(name.substring(0, name.length() - 5));
            }
        }
        return names;
    }

    private static TreeSet<String> testsNamed(String text) {
        TreeSet<String> names = new TreeSet<>();
        Matcher named = Pattern.compile("`(\\w+Test)`").matcher(text);
        while (named.find()) {
            names.add(named.group(1));
        }
        return names;
    }

    private void answers() {
        line("UpdateSteps x = new UpdateSteps();");
        UpdateSteps x = new UpdateSteps();
        due("int put = x.step(0, 0, 1);", () -> x.step(0, 0, 1));
        due("x.template(put, 5, 6, -11, true);", () -> x.template(0, 5, 6, -11, true));
        due("int change = x.step(2, 1, 2);", () -> x.step(2, 1, 2));
        due("x.pattern(change, -1, 6, -2);", () -> x.pattern(1, -1, 6, -2));
        due("x.template(change, -2, 7, -1, true);", () -> x.template(1, -2, 7, -1, true));
        due("x.run();", x::run);
        due("x.many(2);", () -> x.many(2));
        due("x.at(2, 0, 0);", () -> x.at(2, 0, 0));
        due("x.has(2, 100, 7, 5);", () -> x.has(2, 100, 7, 5));
        due("x.changed(1, 0);", () -> x.changed(1, 0));
        due("x.solutions(change);", () -> x.solutions(1));
        due("x.clear();", x::clear);
        due("x.step(4, 0, 2);", () -> x.step(4, 0, 2));
        due("x.run();", x::run);
        due("x.fails();", x::fails);
        due("x.silent(0, true);", () -> x.silent(0, true));
        due("x.run();", x::run);
        CHECK.due("lines of the example that were tried", example.size(), () -> line);
    }

    /** The next line of the example makes this call, and its comment begins with the answer. */
    private void due(String call, Check.Call tried) {
        String comment = line(call);
        CHECK.due(call, comment.split(":")[0], tried);
    }

    private String line(String call) {
        String[] parts = (line < example.size() ? example.get(line) : "").split("//");
        line++;
        CHECK.due("line " + line + " of the example", call, () -> parts[0].strip());
        return parts.length < 2 ? "" : parts[1].strip();
    }
}
