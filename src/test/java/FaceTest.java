import java.lang.reflect.Constructor;
import java.lang.reflect.Field;
import java.lang.reflect.Method;
import java.lang.reflect.Modifier;
import java.util.Set;
import java.util.TreeSet;

/** The class shows the face of the document, and no more. */
final class FaceTest {
    private static final String[] FACE = {
        "public int push(int,int) throws IndexOutOfBoundsException,IllegalArgumentException,IllegalStateException",
        "public int draw(int,int) throws IndexOutOfBoundsException,IllegalArgumentException",
        "public int setWeather(int,int,int) throws IndexOutOfBoundsException,IllegalArgumentException",
        "public int string(int,int) throws IndexOutOfBoundsException",
        "public int moves(int,int,int) throws IndexOutOfBoundsException,IllegalArgumentException",
        "public int chord(int,int,int,int,int)"
                + " throws IndexOutOfBoundsException,IllegalArgumentException,IllegalStateException",
        "public int off(int) throws IndexOutOfBoundsException",
        "public boolean sounds(int) throws IndexOutOfBoundsException",
        "public int steps(int) throws IndexOutOfBoundsException",
        "public int pass(int) throws IllegalArgumentException",
        "public int count(int) throws IndexOutOfBoundsException",
        "public int bears(int) throws IndexOutOfBoundsException",
        "public int first()",
        "public int holds(int) throws IndexOutOfBoundsException",
        "public int foresee(int,int) throws IllegalArgumentException,IndexOutOfBoundsException",
        "public double mean()",
        "public long digest()",
    };

    private FaceTest() {
    }

    public static void main(String[] args) {
        Check.equal("the class's modifiers", Modifier.toString(WedgeHarps.class.getModifiers()), "public final");
        Check.equal("the constructors", constructors().toString(), "[public WedgeHarps()]");
        Check.equal("the methods", openMethods().toString(), new TreeSet<>(Set.of(FACE)).toString());
        noPrivateNamesake();
        fieldsAreHidden();
        nestedClassesAreHidden();
        Check.end("FaceTest");
    }

    private static Set<String> constructors() {
        Set<String> found = new TreeSet<>();
        for (Constructor<?> c : WedgeHarps.class.getDeclaredConstructors()) {
            found.add(plain(c.toGenericString()));
        }
        return found;
    }

    private static Set<String> openMethods() {
        Set<String> found = new TreeSet<>();
        for (Method m : WedgeHarps.class.getDeclaredMethods()) {
            if (!Modifier.isPrivate(m.getModifiers())) {
                found.add(plain(m.toGenericString()));
            }
        }
        return found;
    }

    private static void noPrivateNamesake() {
        Set<String> open = new TreeSet<>();
        for (Method m : WedgeHarps.class.getDeclaredMethods()) {
            if (Modifier.isPublic(m.getModifiers())) {
                open.add(m.getName());
            }
        }
        for (Method m : WedgeHarps.class.getDeclaredMethods()) {
            if (Modifier.isPrivate(m.getModifiers())) {
                Check.equal("a private namesake of " + m.getName(), open.contains(m.getName()), false);
            }
        }
    }

    private static void fieldsAreHidden() {
        for (Field f : WedgeHarps.class.getDeclaredFields()) {
            Check.equal(f.getName() + " is private", Modifier.isPrivate(f.getModifiers()), true);
            boolean state = Modifier.isStatic(f.getModifiers()) && !Modifier.isFinal(f.getModifiers());
            Check.equal(f.getName() + " is static state", state, false);
        }
    }

    private static void nestedClassesAreHidden() {
        for (Class<?> c : WedgeHarps.class.getDeclaredClasses()) {
            int hidden = c.getModifiers() & (Modifier.PUBLIC | Modifier.PROTECTED);
            Check.equal(c.getName() + " is hidden", hidden, 0);
            Check.equal(c.getName() + " is static", Modifier.isStatic(c.getModifiers()), true);
        }
    }

    private static String plain(String signature) {
        return signature.replace("java.lang.", "").replace("WedgeHarps.", "");
    }
}
