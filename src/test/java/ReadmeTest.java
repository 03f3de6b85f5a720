import java.io.IOException;
import java.lang.reflect.Method;
import java.lang.reflect.Modifier;
import java.nio.file.Files;
import java.nio.file.Path;
import java.util.ArrayList;
import java.util.Arrays;
import java.util.List;
import java.util.regex.Matcher;
import java.util.regex.Pattern;

/** The examples in README.md answer what stands behind them, and it names the whole face of the class. */
public final class ReadmeTest {
    private static final Pattern CALL = Pattern.compile("dish\\.(\\w+)\\(([-0-9, ]*)\\);\\s+// (-?\\d+|[A-Z_]+):.*");
    private static final Pattern TYPED = Pattern.compile(
        "for \\(char sign : \"([^\"]*)\"\\.toCharArray\\(\\)\\) dish\\.type\\(sign\\);");
    private static final String NEW = "DishPointer dish = new DishPointer();";

    public static void main(String[] args) throws Exception {
        String readme = Files.readString(Path.of("README.md"));
        examples(readme);
        face(readme);
        tests(readme);
        Check.end();
    }

    private static void examples(String readme) throws Exception {
        Matcher block = Pattern.compile("(?s)```java\n(.*?)```").matcher(readme);
        int blocks = 0;
        while (block.find()) {
            blocks++;
            String[] lines = block.group(1).split("\n");
            Check.due("the first line of an example", lines[0], NEW);
            DishPointer dish = new DishPointer();
            for (String line : Arrays.copyOfRange(lines, 1, lines.length)) {
                example(dish, line);
            }
        }
        Check.due("examples are found", blocks > 0, true);
    }

    private static void example(DishPointer dish, String line) throws Exception {
        Matcher typed = TYPED.matcher(line);
        if (typed.matches()) {
            for (char sign : typed.group(1).toCharArray()) {
                dish.type(sign);
            }
            return;
        }
        Matcher call = CALL.matcher(line);
        Check.due(line + " is a call with an answer", call.matches(), true);
        if (call.matches()) {
            int answer = answer(dish, call.group(1), numbers(call.group(2)));
            Check.due(line, answer, number(call.group(3)));
        }
    }

    private static Integer[] numbers(String arguments) {
        List<Integer> numbers = new ArrayList<>();
        for (String argument : arguments.split(",")) {
            if (!argument.isBlank()) {
                numbers.add(Integer.parseInt(argument.trim()));
            }
        }
        return numbers.toArray(new Integer[0]);
    }

    private static int answer(DishPointer dish, String name, Integer[] arguments) throws Exception {
        Class<?>[] types = new Class<?>[arguments.length];
        Arrays.fill(types, int.class);
        return (int) DishPointer.class.getMethod(name, types).invoke(dish, (Object[]) arguments);
    }

    private static int number(String told) throws Exception {
        if (Character.isLetter(told.charAt(0))) {
            return DishPointer.class.getField(told).getInt(null);
        }
        return Integer.parseInt(told);
    }

    private static void face(String readme) {
        for (Method method : DishPointer.class.getDeclaredMethods()) {
            if (Modifier.isPublic(method.getModifiers())) {
                Matcher row = Pattern.compile("(?m)^\\| `" + method.getName() + "\\(([^)]*)\\)` \\|").matcher(readme);
                boolean found = row.find();
                Check.due("a row for " + method.getName(), found, true);
                Check.due("arguments of " + method.getName(),
                    found && !row.group(1).isEmpty() ? row.group(1).split(",").length : 0,
                    method.getParameterCount());
            }
        }
        Check.due("a row for INVALID_ARGUMENT", readme.contains("| `INVALID_ARGUMENT` | -100001 |"), true);
        Check.due("a row for NOT_POSSIBLE", readme.contains("| `NOT_POSSIBLE` | -100002 |"), true);
        Check.due("a row for LIMIT_REACHED", readme.contains("| `LIMIT_REACHED` | -100003 |"), true);
        Check.due("a row for NOT_FOUND", readme.contains("| `NOT_FOUND` | -100004 |"), true);
    }

    private static void tests(String readme) throws IOException {
        Check.due("it tells how the tests are run", readme.contains("    bash .ci/run\n"), true);
        try (var files = Files.list(Path.of("src/test/java"))) {
            for (Path file : files.toList()) {
                String name = file.getFileName().toString().replace(".java", "");
                if (name.endsWith("Test")) {
                    Check.due("a row for " + name, readme.contains("| `" + name + "` |"), true);
                }
            }
        }
    }
}
