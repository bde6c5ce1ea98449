import java.nio.file.Files;
import java.nio.file.Path;
import java.util.Arrays;
import java.util.List;
import java.util.regex.Matcher;
import java.util.regex.Pattern;
import java.util.stream.Stream;

/** README.md: its example answers as it says, and no call and no test is left out of it. */
public final class ReadmeTest {
    private static final Pattern TEXT = Pattern.compile("\"([^\"]*)\"\\.toCharArray");
    private static final Pattern CALL = Pattern.compile("(?m)^x\\.(\\w+)\\(([^)]*)\\); +// (-?\\d+):");

    public static void main(String[] args) throws Exception {
        Path readme = Path.of(System.getProperty("flaghoists.readme", "README.md"));
        String page = Files.readString(readme);
        example(page.substring(page.indexOf("```java"), page.indexOf("```", page.indexOf("```java") + 3)));
        calls(page);
        tests(page, readme.toAbsolutePath().resolveSibling("src/test/java"));
        Check.end();
    }

    private static void example(String code) {
        FlagHoists x = new FlagHoists();
        Matcher text = TEXT.matcher(code);
        Check.isTrue("the example tells a text", text.find());
        Check.type(x, text.group(1));
        Matcher call = CALL.matcher(code);
        int found = 0;
        while (call.find()) {
            found++;
            String numbers = call.group(2).replace(" ", "");
            int[] values = numbers.isEmpty() ? new int[0]
                    : Arrays.stream(numbers.split(",")).mapToInt(Integer::parseInt).toArray();
            Check.due("README: " + call.group(1) + "(" + call.group(2) + ")",
                    Integer.parseInt(call.group(3)), Call.of(call.group(1), values).on(x));
        }
        Check.due("calls of the example that were read", code.lines().filter(line -> line.startsWith("x.")).count(), found);
    }

    private static void calls(String page) {
        for (java.lang.reflect.Method method : FlagHoists.class.getDeclaredMethods()) {
            if (java.lang.reflect.Modifier.isPublic(method.getModifiers())) {
                String name = method.getName();
                int numbers = method.getParameterCount();
                String form = "`" + name + "\\(" + "\\w+, ".repeat(Math.max(0, numbers - 1)) + (numbers > 0 ? "\\w+" : "") + "\\)`";
                Check.isTrue("README tells nothing of " + name, Pattern.compile(form).matcher(page).find());
            }
        }
    }

    private static void tests(String page, Path folder) throws Exception {
        List<String> names;
        try (Stream<Path> files = Files.list(folder)) {
            names = files.map(file -> file.getFileName().toString()).filter(name -> name.endsWith("Test.java"))
                    .map(name -> name.replace(".java", "")).sorted().toList();
        }
        Check.isTrue("there are tests", !names.isEmpty());
        for (String name : names) {
            Check.isTrue("README tells nothing of " + name, page.contains("\n| " + name + " |"));
        }
        Check.due("tests in README", names.size(), Pattern.compile("(?m)^\\| \\w+Test \\|").matcher(page).results().count());
    }
}
