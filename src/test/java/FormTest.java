import com.sun.management.ThreadMXBean;
import java.io.IOException;
import java.lang.management.ManagementFactory;
import java.lang.reflect.Field;
import java.lang.reflect.Method;
import java.lang.reflect.Modifier;
import java.nio.file.Files;
import java.nio.file.Path;
import java.util.ArrayList;
import java.util.Arrays;
import java.util.List;
import java.util.regex.Matcher;
import java.util.regex.Pattern;

/** What can be seen of LANGUAGE.md in the text of the class and in its members; the numbers are its rules. */
public final class FormTest {
    private static final Check CHECK = new Check();
    private static final String MAIN = "src/main/java/UpdateSteps.java";

    private static final String THROWN = "IllegalStateException|IllegalArgumentException|IndexOutOfBoundsException";
    private static final String[][] RULED_OUT = {
        {"2 lambdas and method references", "->|::"},
        {"4 imports", "import (?!java\\.util\\.(?:Arrays|ArrayList|List|Iterator);).*"},
        {"4 System", "\\bSystem\\.(?!arraycopy\\b)\\w+"},
        {"4 Arrays", "\\bArrays\\.(?!(?:copyOf|copyOfRange|fill)\\b|;)\\w+"},
        {"4 Math", "\\b\\w+Exact\\b"},
        {"5 static blocks", "\\bstatic\\s*\\{"},
        {"6 what exceptions may not do", "\\b(?:finally|getMessage|extends \\w*Exception)\\b"},
        {"6 other exceptions", "\\bthrow\\b(?! new (?:" + THROWN + ")\\(\"[^\"]*\"\\);)"},
        {"6 synchronized, assert", "\\b(?:synchronized|assert)\\b"},
        {"6 equals, hashCode, toString", "\\b(?:equals|hashCode|toString)\\b"},
        {"13 clocks, chance, threads", "\\b(?:Random|random|nanoTime|currentTimeMillis|Thread)\\b"},
    };

    public static void main(String[] args) throws IOException {
        String text = Files.readString(Path.of(MAIN));
        CHECK.due("no package line", false, () -> text.contains("package "));
        CHECK.due("3 characters 0 to 255", true, () -> text.chars().allMatch(c -> c < 256));
        String code = text.replaceAll("(?s)/\\*.*?\\*/|//[^\n]*", "");
        for (String[] rule : RULED_OUT) {
            CHECK.due(rule[0], List.of(), () -> found(code, rule[1]));
        }
        CHECK.due("11 methods of more than sixty lines", List.of(), () -> longMethods(text));
        CHECK.due("11 at most twelve classes", true, () -> allClasses().size() <= 12);
        CHECK.due("11 classes of more than twenty fields", List.of(), FormTest::wideClasses);
        CHECK.due("11 methods of more than seven parameters", List.of(), FormTest::wideMethods);
        CHECK.due("5 static fields that are no constants", List.of(), FormTest::otherStatics);
        CHECK.due("12 four hundred calls make less than one object each", true, () -> bytesOfCalls() < 400 * 16);
        CHECK.end("FormTest");
    }

    /** What 400 calls make, the dearest among them; once before that, so that all classes are there. */
    private static long bytesOfCalls() {
        callOften(new UpdateSteps());
        UpdateSteps x = new UpdateSteps();
        ThreadMXBean threads = (ThreadMXBean) ManagementFactory.getThreadMXBean();
        long thread = Thread.currentThread().getId();
        long before = threads.getThreadAllocatedBytes(thread);
        callOften(x);
        return threads.getThreadAllocatedBytes(thread) - before;
    }

    private static void callOften(UpdateSteps x) {
        for (int i = 0; i < 40; i++) {
            int put = x.step(0, 0, i % 7);
            x.template(put, -11, i, i, true);
            int change = x.step(2, i % 7, (i + 1) % 7);
            x.pattern(change, -1, -2, -3);
            x.pattern(change, -4, -2, -3);
            x.template(change, -4, -2, -1, true);
            x.run();
            x.file(i % 4, i, i, i);
            x.has(i % 7, i, i, i);
            x.clear();
        }
    }

    private static List<String> found(String text, String pattern) {
        List<String> all = new ArrayList<>();
        Matcher matcher = Pattern.compile(pattern).matcher(text);
        while (matcher.find()) {
            all.add(matcher.group());
        }
        return all;
    }

    /** A method starts and ends at four blanks, or at eight in a class inside. */
    private static List<String> longMethods(String text) {
        List<String> all = new ArrayList<>();
        String[] lines = text.split("\n");
        for (int i = 0; i < lines.length; i++) {
            String indent = lines[i].replaceAll("\\S.*", "");
            if (lines[i].matches("(?: {4}| {8})\\w.*\\(.*\\).*\\{") && !lines[i].contains(" class ")) {
                int end = i;
                while (end < lines.length && !lines[end].equals(indent + "}")) {
                    end++;
                }
                if (end - i >= 60) {
                    all.add(lines[i].strip());
                }
            }
        }
        return all;
    }

    private static List<Class<?>> allClasses() {
        List<Class<?>> all = new ArrayList<>(Arrays.asList(UpdateSteps.class.getDeclaredClasses()));
        all.add(UpdateSteps.class);
        return all;
    }

    private static List<String> wideClasses() {
        List<String> all = new ArrayList<>();
        for (Class<?> type : allClasses()) {
            int fields = 0;
            for (Field field : type.getDeclaredFields()) {
                fields += Modifier.isStatic(field.getModifiers()) ? 0 : 1;
            }
            if (fields > 20) {
                all.add(type.getName());
            }
        }
        return all;
    }

    private static List<String> wideMethods() {
        List<String> all = new ArrayList<>();
        for (Class<?> type : allClasses()) {
            for (Method method : type.getDeclaredMethods()) {
                if (method.getParameterCount() > 7) {
                    all.add(method.toString());
                }
            }
        }
        return all;
    }

    private static List<String> otherStatics() {
        List<String> all = new ArrayList<>();
        for (Class<?> type : allClasses()) {
            for (Field field : type.getDeclaredFields()) {
                boolean isConstant = Modifier.isFinal(field.getModifiers()) && field.getType() == int.class;
                if (Modifier.isStatic(field.getModifiers()) && !isConstant) {
                    all.add(field.toString());
                }
            }
        }
        return all;
    }
}
