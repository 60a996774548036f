import java.io.ByteArrayOutputStream;
import java.io.IOException;
import java.io.PrintStream;
import java.lang.reflect.Method;
import java.lang.reflect.Modifier;
import java.net.URL;
import java.net.URLClassLoader;
import java.nio.file.Files;
import java.nio.file.Path;
import javax.tools.JavaCompiler;
import javax.tools.ToolProvider;

/** What README.md says of the class: its program prints what stands there, and each call of the face is named. */
public final class ReadmeTest {
    private static final Check check = new Check("ReadmeTest");

    public static void main(String[] args) throws Exception {
        String readme = Files.readString(Path.of("README.md"));
        check.due("what the program prints", block(readme, "text"), printed(block(readme, "java")));
        calls(readme);
        check.due("how to run the tests", true, readme.contains(".ci/run"));
        check.end();
    }

    private static void calls(String readme) {
        for (Method method : AmendmentTree.class.getDeclaredMethods()) {
            if (Modifier.isPublic(method.getModifiers())) {
                String row = "| `" + method.getName() + "(";
                check.due(method.getName() + " has a row", true, readme.contains(row));
                int start = readme.indexOf(row) + row.length();
                int stop = readme.indexOf(')', start);
                String named = start < row.length() || stop < start ? "" : readme.substring(start, stop);
                int parameters = named.isEmpty() ? 0 : named.split(",").length;
                check.due("parameters of " + method.getName(), method.getParameterCount(), parameters);
            }
        }
    }

    /** The first fenced block of a kind, without its fences. */
    private static String block(String readme, String kind) {
        String fence = "```" + kind + "\n";
        int start = readme.indexOf(fence);
        int stop = start < 0 ? -1 : readme.indexOf("```", start + fence.length());
        return stop < 0 ? "" : readme.substring(start + fence.length(), stop);
    }

    private static String printed(String program) throws Exception {
        Path folder = Files.createTempDirectory("readme");
        try {
            return printedIn(folder, program);
        } finally {
            delete(folder);
        }
    }

    private static String printedIn(Path folder, String program) throws Exception {
        Path source = folder.resolve("Example.java");
        Files.writeString(source, program);
        JavaCompiler compiler = ToolProvider.getSystemJavaCompiler();
        String classes = System.getProperty("java.class.path");
        if (compiler.run(null, null, null, "-cp", classes, "-d", folder.toString(), source.toString()) != 0) {
            return "the program does not compile";
        }
        PrintStream before = System.out;
        ByteArrayOutputStream bytes = new ByteArrayOutputStream();
        try (URLClassLoader loader = new URLClassLoader(new URL[] {folder.toUri().toURL()})) {
            System.setOut(new PrintStream(bytes, true));
            loader.loadClass("Example").getMethod("main", String[].class).invoke(null, (Object) new String[0]);
        } finally {
            System.setOut(before);
        }
        return bytes.toString().replace("\r\n", "\n");
    }

    private static void delete(Path folder) throws IOException {
        try (var files = Files.list(folder)) {
            for (Path file : files.toList()) {
                Files.delete(file);
            }
        }
        Files.delete(folder);
    }
}
