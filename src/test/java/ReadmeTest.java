import java.io.IOException;
import java.lang.reflect.Field;
import java.lang.reflect.Method;
import java.lang.reflect.Modifier;
import java.nio.file.Files;
import java.nio.file.Path;
import java.util.Arrays;
import java.util.List;
import java.util.regex.Matcher;
import java.util.regex.Pattern;
import java.util.stream.Stream;

/** What README.md says is so: the answers of its example, its calls, its constants, its tests. */
public final class ReadmeTest {
    private static final Pattern EXAMPLE = Pattern.compile("```java\n(.*?)```", Pattern.DOTALL);
    private static final Pattern SAID = Pattern.compile("\"([^\"]*)\"\\.toCharArray\\(\\)");
    private static final Pattern ASKED = Pattern.compile("weave\\.(\\w+)\\(([-0-9, ]*)\\); *// (-?\\d+):.*");
    private static final Due due = new Due();

    public static void main(String[] args) throws IOException, ReflectiveOperationException {
        String readme = Files.readString(Path.of("README.md"));
        example(readme);
        calls(readme);
        constants(readme);
        tests(readme);
        due.end();
    }

    private static void example(String readme) throws ReflectiveOperationException {
        due.about("the example");
        Matcher block = EXAMPLE.matcher(readme);
        due.is("an example is there", block.find() ? 1 : 0, 1);
        StreamWeave weave = new StreamWeave();
        int asked = 0;
        for (String row : block.group(1).split("\n")) {
            Matcher said = SAID.matcher(row);
            if (said.find()) {
                Due.type(weave, said.group(1));
            }
            Matcher call = ASKED.matcher(row);
            if (call.matches()) {
                asked++;
                due.is(row, ask(weave, call.group(1), call.group(2)), Integer.parseInt(call.group(3)));
            }
        }
        long rows = block.group(1).lines().filter(row -> row.contains("//")).count();
        due.is("rows of the example that tell an answer", asked, (int) rows);
    }

    private static int ask(StreamWeave weave, String name, String numbers) throws ReflectiveOperationException {
        Object[] values = Stream.of(numbers.split(",")).map(String::trim).filter(n -> !n.isEmpty())
            .map(Integer::valueOf).toArray();
        Class<?>[] types = new Class<?>[values.length];
        Arrays.fill(types, int.class);
        return (Integer) StreamWeave.class.getMethod(name, types).invoke(weave, values);
    }

    private static void calls(String readme) {
        due.about("the calls");
        for (Method method : StreamWeave.class.getDeclaredMethods()) {
            if (Modifier.isPublic(method.getModifiers())) {
                int numbers = method.getParameterCount();
                String told = "| `" + method.getName() + "\\("
                    + String.join(", ", List.of("\\w+", "\\w+", "\\w+").subList(0, numbers)) + "\\)` \\|";
                due.is(method.getName(), Pattern.compile("\\" + told).matcher(readme).find() ? 1 : 0, 1);
            }
        }
    }

    private static void constants(String readme) throws IllegalAccessException {
        due.about("the constants");
        for (Field field : StreamWeave.class.getFields()) {
            String told = "`" + field.getName() + "` = " + field.getInt(null) + " |";
            due.is(told, readme.contains(told) ? 1 : 0, 1);
        }
    }

    private static void tests(String readme) throws IOException {
        due.about("the tests");
        try (Stream<Path> files = Files.list(Path.of("src/test/java"))) {
            for (String file : files.map(path -> path.getFileName().toString()).sorted().toList()) {
                due.is(file, readme.contains("`" + file.replace(".java", "") + "`") ? 1 : 0, 1);
            }
        }
        Matcher named = Pattern.compile("`(\\w+Test)`").matcher(readme);
        while (named.find()) {
            Path file = Path.of("src/test/java", named.group(1) + ".java");
            due.is(file.toString(), Files.exists(file) ? 1 : 0, 1);
        }
    }
}
