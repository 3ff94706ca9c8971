import java.io.IOException;
import java.lang.reflect.Field;
import java.lang.reflect.Method;
import java.lang.reflect.Modifier;
import java.nio.file.Files;
import java.nio.file.Path;
import java.util.List;
import java.util.regex.Matcher;
import java.util.regex.Pattern;
import java.util.stream.Stream;

/** README.md: its example answers as it says, and every call, constant and test is named there. */
public final class ReadmeTest {
    private static final Pattern TEXT = Pattern.compile("String text = \"([^\"]*)\";");
    private static final Pattern CALL = Pattern.compile("x\\.(\\w+)\\(([-0-9, ]*)\\);(?:\\s*// (-?\\d+))?");
    private static final int CALLS_OF_THE_EXAMPLE = 7;
    private static final Due due = new Due();

    public static void main(String[] args) throws IOException, ReflectiveOperationException {
        String readme = Files.readString(Path.of("README.md"));
        example(readme.substring(readme.indexOf("```java"), readme.indexOf("```\n", readme.indexOf("```java"))));
        face(readme);
        tests(readme);
        due.end("ReadmeTest");
    }

    private static void example(String code) throws ReflectiveOperationException {
        PraiseDuels x = new PraiseDuels();
        Matcher text = TEXT.matcher(code);
        due.is("README.md: a text in its example", text.find() ? 1 : 0, 1);
        Due.feedAll(x, text.group(1));
        int calls = 0;
        Matcher call = CALL.matcher(code);
        while (call.find()) {
            int got = answer(x, call.group(1), call.group(2));
            calls++;
            if (call.group(3) != null) {
                due.is("README.md: " + call.group(), got, Integer.parseInt(call.group(3)));
            }
        }
        due.is("README.md: calls of its example", calls, CALLS_OF_THE_EXAMPLE);
    }

    private static int answer(PraiseDuels x, String name, String numbers) throws ReflectiveOperationException {
        String[] parts = numbers.isBlank() ? new String[0] : numbers.split(", ");
        Class<?>[] types = new Class<?>[parts.length];
        Object[] given = new Object[parts.length];
        for (int i = 0; i < parts.length; i++) {
            types[i] = int.class;
            given[i] = Integer.valueOf(parts[i]);
        }
        return (Integer) PraiseDuels.class.getMethod(name, types).invoke(x, given);
    }

    private static void face(String readme) {
        for (Method method : PraiseDuels.class.getDeclaredMethods()) {
            if (Modifier.isPublic(method.getModifiers())) {
                int many = method.getParameterCount();
                String given = many == 0 ? "" : "\\w+" + ", \\w+".repeat(many - 1);
                names(readme, "`" + method.getName() + "\\(" + given + "\\)`");
            }
        }
        for (Field field : PraiseDuels.class.getDeclaredFields()) {
            if (Modifier.isPublic(field.getModifiers())) {
                names(readme, "\\b" + field.getName() + "\\b");
            }
        }
    }

    private static void tests(String readme) throws IOException {
        try (Stream<Path> files = Files.list(Path.of("src/test/java"))) {
            List<String> all = files.map(file -> file.getFileName().toString()).filter(name -> name.endsWith("Test.java"))
                    .map(name -> name.substring(0, name.length() - ".java".length())).sorted().toList();
            for (String name : all) {
                names(readme, "`" + name + "`");
            }
        }
    }

    private static void names(String readme, String what) {
        due.is("README.md names " + what, Pattern.compile(what).matcher(readme).find() ? 1 : 0, 1);
    }
}
