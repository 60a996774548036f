import java.io.IOException;
import java.lang.reflect.Constructor;
import java.lang.reflect.Field;
import java.lang.reflect.Method;
import java.lang.reflect.Modifier;
import java.nio.file.Files;
import java.nio.file.Path;
import java.util.List;
import java.util.Set;
import java.util.TreeSet;

/** The face as the document has it, and the rules of LANGUAGE.md that can be seen without running. */
public final class LanguageTest {
    private static final Check check = new Check("LanguageTest");
    private static final Path SOURCE = Path.of("src/main/java/AmendmentTree.java");
    private static final Set<String> FACE = Set.of("int feed(5)", "boolean end(1)", "int tell(0)", "int fault(0)",
            "boolean weigh(3)", "boolean order(1)", "int count(1)", "int motion(2)", "int weight(2)", "int likes(2)",
            "int form(1)", "int result(1)", "int adopted(1)", "int yes(2)", "int minutes(2)", "int without(2)",
            "int killers(1)", "int best(3)", "int prefers(2)", "int open(1)", "int winner(0)", "int standing(2)");
    private static final String[] RULED_OUT = {"->", "::", "catch", "finally", "synchronized", "assert", "double",
        "float", "System.out", "Exact", "static {", "protected ", "Object"};

    public static void main(String[] args) throws IOException {
        face();
        names();
        staticState();
        source();
        check.end();
    }

    private static void face() {
        Set<String> found = new TreeSet<>();
        for (Method method : AmendmentTree.class.getDeclaredMethods()) {
            if (Modifier.isPublic(method.getModifiers())) {
                found.add(method.getReturnType() + " " + method.getName() + "(" + method.getParameterCount() + ")");
                for (Class<?> type : method.getParameterTypes()) {
                    check.due("parameters of " + method, true, type == int.class);
                }
            } else {
                check.due(method + " is private", true, Modifier.isPrivate(method.getModifiers()));
            }
        }
        check.due("the face", new TreeSet<>(FACE).toString(), found.toString());
        check.due("final", true, Modifier.isFinal(AmendmentTree.class.getModifiers()));
        for (Constructor<?> constructor : AmendmentTree.class.getDeclaredConstructors()) {
            check.due("the constructor", true,
                    Modifier.isPublic(constructor.getModifiers()) && constructor.getParameterCount() == 0);
        }
    }

    private static void names() {
        Set<String> faceNames = new TreeSet<>();
        FACE.forEach(one -> faceNames.add(one.replaceAll(".* |\\(.*", "")));
        for (Class<?> inside : AmendmentTree.class.getDeclaredClasses()) {
            check.due(inside + " is static", true, Modifier.isStatic(inside.getModifiers()));
            check.due(inside + " has few fields", true, inside.getDeclaredFields().length <= 30);
            for (Method method : inside.getDeclaredMethods()) {
                check.due(method + " has no name of the face", false, faceNames.contains(method.getName()));
                check.due(method + " has few parameters", true, method.getParameterCount() <= 7);
            }
        }
        for (Method method : AmendmentTree.class.getDeclaredMethods()) {
            boolean bears = Modifier.isPrivate(method.getModifiers()) && faceNames.contains(method.getName());
            check.due(method + " bears no public name", false, bears);
        }
    }

    private static void staticState() {
        for (Field field : AmendmentTree.class.getDeclaredFields()) {
            boolean none = field.getName().equals("NONE");
            check.due(field + " is hidden, but NONE", none, !Modifier.isPrivate(field.getModifiers()));
            check.due(field + " is final if static", true,
                    !Modifier.isStatic(field.getModifiers()) || Modifier.isFinal(field.getModifiers()));
        }
    }

    private static void source() throws IOException {
        List<String> lines = Files.readAllLines(SOURCE);
        for (int i = 0; i < lines.size(); i++) {
            String line = lines.get(i);
            for (String word : RULED_OUT) {
                check.due("line " + (i + 1) + " without " + word, false, line.contains(word));
            }
            // Calls make nothing but exceptions, so a run's room holds what its constructors made.
            boolean makes = line.contains("new ");
            boolean allowed = line.contains("private final ") || line.contains("throw new NoSuchElementException(");
            check.due("line " + (i + 1) + " makes nothing in a call", true, !makes || allowed);
            if (line.startsWith("import ")) {
                check.due(line, true, line.equals("import java.util.Arrays;")
                        || line.equals("import java.util.NoSuchElementException;"));
            }
        }
    }
}
