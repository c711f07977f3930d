import java.io.IOException;
import java.lang.reflect.Method;
import java.nio.file.Files;
import java.nio.file.Path;
import java.util.HashSet;
import java.util.Set;
import java.util.regex.Matcher;
import java.util.regex.Pattern;

/** README.md's example answers as it says, and its other words name what there is. Runs in the project's folder. */
public final class ReadmeTest {
    private static final Check CHECK = new Check("ReadmeTest");
    private static final Pattern BLOCK = Pattern.compile("(?s)```java\n(.*?)```");
    private static final Pattern CALL = Pattern.compile("city\\.(\\w+)\\(([-0-9, ]*)\\); +// (-?\\d+|[A-Z_]+): .+");
    private static final Pattern TEXT = Pattern.compile("\"([^\"]+)\"\\.chars\\(\\)\\.forEach\\(city::append\\);");
    private static final Pattern TEST = Pattern.compile("`(\\w+Test|Model|Town|Check)`");

    public static void main(String[] args) throws ReflectiveOperationException, IOException {
        String readme = Files.readString(Path.of("README.md"));
        Matcher block = BLOCK.matcher(readme);
        CHECK.holds("an example in README.md", block.find());
        carryOut(block.group(1));
        everyTestIsNamed(readme);
        CHECK.end();
    }

    private static void carryOut(String example) throws ReflectiveOperationException {
        RibbedLoans city = new RibbedLoans();
        Set<String> called = new HashSet<>();
        for (String line : example.split("\n")) {
            Matcher call = CALL.matcher(line);
            Matcher text = TEXT.matcher(line);
            if (call.matches()) {
                called.add(call.group(1));
                CHECK.due(line, answer(city, call.group(1), call.group(2)), number(call.group(3)));
            } else if (text.matches()) {
                text.group(1).chars().forEach(city::append);
                called.add("append");
            } else {
                CHECK.holds("<" + line + "> can be read", line.isEmpty() || line.startsWith("// ")
                    || line.equals("RibbedLoans city = new RibbedLoans();"));
            }
        }
        CHECK.holds("the example calls more than " + called, called.size() > 15);
    }

    private static int answer(RibbedLoans city, String name, String words) throws ReflectiveOperationException {
        String[] numbers = words.isEmpty() ? new String[0] : words.split(", ");
        Class<?>[] types = new Class<?>[numbers.length];
        Object[] values = new Object[numbers.length];
        for (int i = 0; i < numbers.length; i++) {
            types[i] = int.class;
            values[i] = Integer.valueOf(numbers[i]);
        }
        Method method = RibbedLoans.class.getMethod(name, types);
        return (Integer) method.invoke(city, values);
    }

    private static int number(String word) throws ReflectiveOperationException {
        return Character.isLetter(word.charAt(0))
            ? RibbedLoans.class.getField(word).getInt(null) : Integer.parseInt(word);
    }

    private static void everyTestIsNamed(String readme) throws IOException {
        Set<String> named = new HashSet<>();
        Matcher names = TEST.matcher(readme);
        while (names.find()) {
            named.add(names.group(1));
            CHECK.holds(names.group(1) + " is there", Files.exists(Path.of("src/test/java/" + names.group(1) + ".java")));
        }
        try (var files = Files.list(Path.of("src/test/java"))) {
            files.map(file -> file.getFileName().toString()).filter(file -> file.endsWith("Test.java"))
                .forEach(file -> CHECK.holds(file + " is named", named.contains(file.replace(".java", ""))));
        }
    }
}
