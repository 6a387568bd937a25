import java.io.IOException;
import java.lang.reflect.InvocationTargetException;
import java.lang.reflect.Method;
import java.lang.reflect.Modifier;
import java.nio.file.DirectoryStream;
import java.nio.file.Files;
import java.nio.file.Path;
import java.util.ArrayList;
import java.util.List;
import java.util.Set;
import java.util.TreeSet;
import java.util.regex.Matcher;
import java.util.regex.Pattern;

/** What README.md says of the calls and of the tests is so; runs at the root of the checkout. */
final class ReadmeTest {
    private static final Path README = Path.of("README.md");
    private static final Path TESTS = Path.of("src/test/java");
    private static final Pattern CALL = Pattern.compile("harp\\.(\\w+)\\(([-\\d, ]*)\\); +// (throws \\w+|[^:]+): .+");

    private ReadmeTest() {
    }

    public static void main(String[] args) throws IOException, IllegalAccessException {
        String readme = Files.readString(README);
        callsAnswerAsTold(readme);
        eachTestIsNamed(readme);
        Check.end("ReadmeTest");
    }

    /** Each line of the block is a call; a line that can't be read as one counts as wrong. */
    private static void callsAnswerAsTold(String readme) throws IllegalAccessException {
        WedgeHarps harp = new WedgeHarps();
        Set<String> shown = new TreeSet<>();
        for (String line : exampleOf(readme).split("\n")) {
            Matcher call = CALL.matcher(line);
            if (call.matches()) {
                shown.add(call.group(1));
                Check.equal(line, answer(harp, call.group(1), numbersOf(call.group(2))), call.group(3));
            } else if (!line.isEmpty()) {
                Check.equal("a line of the example", line, "WedgeHarps harp = new WedgeHarps();");
            }
        }
        Set<String> face = new TreeSet<>();
        for (Method m : publicMethods()) {
            face.add(m.getName());
        }
        Check.equal("the methods that the example shows", shown.toString(), face.toString());
    }

    private static String exampleOf(String readme) {
        Matcher block = Pattern.compile("(?s)```java\n(.*?)```").matcher(readme);
        return block.find() ? block.group(1) : "no example";
    }

    private static Object[] numbersOf(String list) {
        if (list.isEmpty()) {
            return new Object[0];
        }
        String[] words = list.split(", ");
        Object[] numbers = new Object[words.length];
        for (int i = 0; i < words.length; i++) {
            numbers[i] = Integer.valueOf(words[i]);
        }
        return numbers;
    }

    private static String answer(WedgeHarps harp, String name, Object[] numbers) throws IllegalAccessException {
        for (Method m : publicMethods()) {
            if (m.getName().equals(name) && m.getParameterCount() == numbers.length) {
                try {
                    return String.valueOf(m.invoke(harp, numbers));
                } catch (InvocationTargetException e) {
                    return "throws " + e.getCause().getClass().getSimpleName();
                }
            }
        }
        return "no such method";
    }

    private static List<Method> publicMethods() {
        List<Method> methods = new ArrayList<>();
        for (Method m : WedgeHarps.class.getDeclaredMethods()) {
            if (Modifier.isPublic(m.getModifiers())) {
                methods.add(m);
            }
        }
        return methods;
    }

    private static void eachTestIsNamed(String readme) throws IOException {
        Set<String> named = new TreeSet<>();
        Matcher row = Pattern.compile("(?m)^\\| (\\w+Test) \\|").matcher(readme);
        while (row.find()) {
            named.add(row.group(1));
        }
        Set<String> there = new TreeSet<>();
        try (DirectoryStream<Path> files = Files.newDirectoryStream(TESTS, "*Test.java")) {
            for (Path file : files) {
                there.add(file.getFileName().toString().replace(".java", ""));
            }
        }
        Check.equal("the tests that the table names", named.toString(), there.toString());
    }
}
