import java.lang.reflect.Constructor;
import java.lang.reflect.Field;
import java.lang.reflect.Method;
import java.lang.reflect.Modifier;
import java.util.ArrayList;
import java.util.Arrays;
import java.util.Collections;
import java.util.List;

/** The public face is the document's, and there is no other member to be seen. */
public final class FaceTest {
    private static final String[] METHODS = {
        "int step(int, int, int) IllegalArgumentException IllegalStateException",
        "boolean silent(int, boolean) IndexOutOfBoundsException",
        "int template(int, int, int, int, boolean) IndexOutOfBoundsException IllegalArgumentException IllegalStateException",
        "int pattern(int, int, int, int) IndexOutOfBoundsException IllegalArgumentException IllegalStateException",
        "int file(int, int, int, int) IndexOutOfBoundsException IllegalArgumentException IllegalStateException",
        "boolean torn(int, boolean) IndexOutOfBoundsException",
        "int run()",
        "int fails()",
        "int clear()",
        "int many(int) IndexOutOfBoundsException",
        "int at(int, int, int) IndexOutOfBoundsException IllegalArgumentException",
        "boolean has(int, int, int, int) IndexOutOfBoundsException",
        "int changed(int, int) IndexOutOfBoundsException IllegalArgumentException",
        "int solutions(int) IndexOutOfBoundsException",
        "int told(int) IllegalArgumentException",
    };

    public static void main(String[] args) {
        Check check = new Check();
        check.due("modifiers", "public final", () -> Modifier.toString(UpdateSteps.class.getModifiers()));
        check.due("NONE", -1, () -> UpdateSteps.NONE);
        check.due("ALL", -1, () -> UpdateSteps.ALL);
        check.due("NAMED", -2, () -> UpdateSteps.NAMED);
        check.due("fields", List.of("ALL", "NAMED", "NONE"), FaceTest::fields);
        check.due("constructors", List.of("public UpdateSteps()"), FaceTest::constructors);
        List<String> methods = new ArrayList<>(Arrays.asList(METHODS));
        Collections.sort(methods);
        check.due("methods", methods, FaceTest::methods);
        check.due("private methods with a public one's name", List.of(), FaceTest::sharedNames);
        check.end("FaceTest");
    }

    private static List<String> fields() {
        List<String> names = new ArrayList<>();
        for (Field field : UpdateSteps.class.getDeclaredFields()) {
            if (!Modifier.isPrivate(field.getModifiers())) {
                names.add(field.getName());
            }
        }
        Collections.sort(names);
        return names;
    }

    private static List<String> constructors() {
        List<String> all = new ArrayList<>();
        for (Constructor<?> made : UpdateSteps.class.getDeclaredConstructors()) {
            all.add(made.toString());
        }
        return all;
    }

    private static List<String> methods() {
        List<String> all = new ArrayList<>();
        for (Method method : UpdateSteps.class.getDeclaredMethods()) {
            if (!Modifier.isPrivate(method.getModifiers())) {
                all.add(told(method));
            }
        }
        Collections.sort(all);
        return all;
    }

    private static String told(Method method) {
        List<String> types = new ArrayList<>();
        for (Class<?> type : method.getParameterTypes()) {
            types.add(type.getSimpleName());
        }
        StringBuilder text = new StringBuilder();
        text.append(method.getReturnType().getSimpleName()).append(' ').append(method.getName());
        text.append('(').append(String.join(", ", types)).append(')');
        for (Class<?> thrown : method.getExceptionTypes()) {
            text.append(' ').append(thrown.getSimpleName());
        }
        return text.toString();
    }

    private static List<Class<?>> allClasses() {
        List<Class<?>> all = new ArrayList<>(Arrays.asList(UpdateSteps.class.getDeclaredClasses()));
        all.add(UpdateSteps.class);
        return all;
    }

    private static List<String> sharedNames() {
        List<String> open = new ArrayList<>();
        for (Method method : UpdateSteps.class.getMethods()) {
            open.add(method.getName());
        }
        List<String> shared = new ArrayList<>();
        for (Class<?> type : allClasses()) {
            for (Method method : type.getDeclaredMethods()) {
                if (!Modifier.isPublic(method.getModifiers()) && open.contains(method.getName())) {
                    shared.add(method.toString());
                }
            }
        }
        return shared;
    }
}
