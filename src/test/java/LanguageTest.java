import java.io.IOException;
import java.lang.reflect.Method;
import java.nio.file.Files;
import java.nio.file.Path;
import java.util.Set;
import java.util.regex.Matcher;
import java.util.regex.Pattern;

/** The rules of ../shared/LANGUAGE.md that can be seen in the program's words; runs at the root of the checkout. */
final class LanguageTest {
    private static final Path PROGRAM = Path.of("src/main/java/WedgeHarps.java");
    private static final Set<String> LIBRARY = Set.of("Math.abs", "Math.max", "Math.min", "Math.floorMod");
    private static final Set<String> THROWN = Set.of(
            "IndexOutOfBoundsException", "IllegalArgumentException", "IllegalStateException");
    /** Some of these the rules allow, but the program does without them. */
    private static final String[] LEFT_OUT = {
        "package", "import", "try", "catch", "finally", "synchronized", "assert", "protected", "native", "volatile",
        "System", "Thread", "Random", "String", "Object", "instanceof", "null", "float", "->", "::",
    };
    private static final int MOST_PARAMETERS = 7;

    private LanguageTest() {
    }

    public static void main(String[] args) throws IOException {
        String code = withoutComments(Files.readString(PROGRAM));
        Check.equal("the program is read", code.contains("public final class WedgeHarps {"), true);
        wordsThatAreLeftOut(code);
        libraryCalls(code);
        throwing(code);
        staticFields(code);
        objectsAreMadeInConstructors(code);
        parameters();
        Check.end("LanguageTest");
    }

    /** What stands between quotation marks goes, too. */
    private static String withoutComments(String text) {
        return text.replaceAll("(?s)/\\*.*?\\*/", "").replaceAll("\"[^\"\n]*\"", "\"\"").replaceAll("//.*", "");
    }

    private static void wordsThatAreLeftOut(String code) {
        for (String word : LEFT_OUT) {
            String bounded = word.matches("\\w+") ? "\\b" + word + "\\b" : Pattern.quote(word);
            Check.equal("found " + word, Pattern.compile(bounded).matcher(code).find(), false);
        }
        Check.equal("found a static block", Pattern.compile("\\bstatic\\s*\\{").matcher(code).find(), false);
    }

    private static void libraryCalls(String code) {
        Matcher call = Pattern.compile("\\b[A-Z][a-z]\\w*\\.\\w+").matcher(code);
        while (call.find()) {
            Check.equal("the program may use " + call.group(), LIBRARY.contains(call.group()), true);
        }
    }

    private static void throwing(String code) {
        Matcher thrown = Pattern.compile("\\bthrow (.*)").matcher(code);
        while (thrown.find()) {
            String name = thrown.group(1).replaceAll("^new (\\w+)\\(\"\"\\);$", "$1");
            Check.equal("the program may throw " + thrown.group(1), THROWN.contains(name), true);
        }
    }

    private static void staticFields(String code) {
        Matcher field = Pattern.compile("(?m)^.*\\bstatic\\b[^({\n]*[;=].*$").matcher(code);
        while (field.find()) {
            boolean constant = field.group().matches(" {4}private static final (int|long) [A-Z_]+ = \\d+L?;");
            Check.equal("is a constant: " + field.group().strip(), constant, true);
        }
    }

    /** All calls of a run share one room, and only a constructor can give a final field what it made. */
    private static void objectsAreMadeInConstructors(String code) {
        Matcher made = Pattern.compile("(?m)^(.*)\\bnew\\b.*$").matcher(code);
        while (made.find()) {
            if (!made.group(1).endsWith("throw ")) {
                String field = made.group(1).replaceAll("^ *(\\w+)(\\[\\w+\\])? = $", "$1");
                boolean kept = Pattern.compile("\\bfinal \\w+(\\[\\])* " + field + ";").matcher(code).find();
                Check.equal("made for a final field: " + made.group().strip(), kept, true);
            }
        }
    }

    private static void parameters() {
        countParameters(WedgeHarps.class);
        for (Class<?> nested : WedgeHarps.class.getDeclaredClasses()) {
            countParameters(nested);
        }
    }

    private static void countParameters(Class<?> type) {
        for (Method m : type.getDeclaredMethods()) {
            String what = m.getName() + " takes " + m.getParameterCount();
            Check.equal(what, m.getParameterCount() <= MOST_PARAMETERS, true);
        }
    }
}
