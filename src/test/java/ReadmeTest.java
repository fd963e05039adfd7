import java.io.IOException;
import java.lang.reflect.Method;
import java.lang.reflect.Modifier;
import java.nio.file.Files;
import java.nio.file.Path;
import java.util.List;
import java.util.regex.Matcher;
import java.util.regex.Pattern;
import java.util.stream.Stream;

/** What README.md says holds: its code answers as it says, and it names all there is; run from the project's root. */
public final class ReadmeTest {
    private static final Due due = new Due("ReadmeTest");
    private static final Pattern MAKES = Pattern.compile("SpoonHates soup = new SpoonHates\\(\\);(\\s+// .*)?");
    private static final Pattern FEEDS = Pattern.compile(
            "for \\(char c : \"([^\"]*)\"\\.toCharArray\\(\\)\\) soup\\.feed\\(c\\);");
    private static final Pattern CALLS = Pattern.compile("soup\\.(\\w+)\\(([-\\d, ]*)\\);\\s+// (-?\\d+): .+");

    private static SpoonHates soup = new SpoonHates();

    public static void main(String[] args) throws IOException, ReflectiveOperationException {
        String readme = Files.readString(Path.of("README.md"));
        code(readme);
        names(readme);
        due.close();
    }

    private static void code(String readme) throws ReflectiveOperationException {
        boolean isCode = false;
        int lines = 0;
        for (String line : readme.lines().toList()) {
            if (line.startsWith("```")) {
                isCode = line.equals("```java");
            } else if (isCode) {
                due.is("'" + line + "' can be run", runs(line) ? 1 : 0, 1);
                lines++;
            }
        }
        due.is("there is code", lines > 50 ? 1 : 0, 1);
    }

    private static boolean runs(String line) throws ReflectiveOperationException {
        Matcher feeds = FEEDS.matcher(line);
        Matcher calls = CALLS.matcher(line);
        if (MAKES.matcher(line).matches()) {
            soup = new SpoonHates();
            return true;
        }
        if (feeds.matches()) {
            Due.feedAll(soup, feeds.group(1));
            return true;
        }
        if (!calls.matches()) {
            return false;
        }
        due.is(line, answer(calls.group(1), calls.group(2)), Long.parseLong(calls.group(3)));
        return true;
    }

    private static long answer(String name, String numbers) throws ReflectiveOperationException {
        Object[] arguments = numbers.isEmpty() ? new Object[0]
                : Stream.of(numbers.split(", ")).map(Integer::valueOf).toArray();
        for (Method m : SpoonHates.class.getMethods()) {
            if (m.getName().equals(name) && m.getParameterCount() == arguments.length) {
                return ((Number) m.invoke(soup, arguments)).longValue();
            }
        }
        throw new NoSuchMethodException(name);
    }

    private static void names(String readme) throws IOException {
        for (Method m : SpoonHates.class.getDeclaredMethods()) {
            if (Modifier.isPublic(m.getModifiers())) {
                due.is(m.getName() + " is in a table", readme.contains("\n| `" + m.getName() + "(") ? 1 : 0, 1);
            }
        }
        for (Class<?> inside : SpoonHates.class.getDeclaredClasses()) {
            due.is(inside + " is named", readme.contains("`" + inside.getSimpleName() + "`") ? 1 : 0, 1);
        }
        List<String> tests;
        try (Stream<Path> files = Files.list(Path.of("src/test/java"))) {
            tests = files.map(file -> file.getFileName().toString().replace(".java", "")).toList();
        }
        for (String test : tests) {
            boolean isNamed = readme.contains("`" + test + "`") || test.equals("Due");
            due.is(test + " is named", isNamed ? 1 : 0, 1);
        }
        Matcher named = Pattern.compile("`(\\w+Test)`").matcher(readme);
        while (named.find()) {
            due.is(named.group() + " is there", tests.contains(named.group(1)) ? 1 : 0, 1);
        }
        due.is(".ci/run can be run", Files.isExecutable(Path.of(".ci/run")) && readme.contains("    .ci/run\n") ? 1 : 0, 1);
    }
}
