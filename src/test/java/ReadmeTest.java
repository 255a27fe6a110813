import java.io.ByteArrayOutputStream;
import java.io.IOException;
import java.io.PrintStream;
import java.lang.reflect.Field;
import java.lang.reflect.Method;
import java.lang.reflect.Modifier;
import java.net.URL;
import java.net.URLClassLoader;
import java.nio.charset.StandardCharsets;
import java.nio.file.Files;
import java.nio.file.Path;
import java.util.Comparator;
import java.util.List;
import java.util.stream.Stream;
import javax.tools.JavaCompiler;
import javax.tools.StandardJavaFileManager;
import javax.tools.ToolProvider;

/** README.md is as the class is: its example prints what stands there; calls, constants and tests are all named. */
public final class ReadmeTest {
    private static final Due due = new Due("ReadmeTest");

    public static void main(String[] args) throws Exception {
        String page = Files.readString(Path.of("README.md"));
        example(page);
        names(page);
        tests(page);
        due.end();
    }

    private static void example(String page) throws Exception {
        String program = block(page, "java");
        String[] want = block(page, "text").split("\n");
        String[] got = printed(program).split("\n");
        due.is("lines printed", got.length, want.length);
        for (int i = 0; i < got.length && i < want.length; i++) {
            due.holds("the page says '" + want[i] + "', the example prints '" + got[i] + "'", want[i].equals(got[i]));
        }
    }

    /** The first block of this kind; the page's example is the first one, what it prints the other. */
    private static String block(String page, String kind) {
        String head = "```" + kind + "\n";
        int from = page.indexOf(head) + head.length();
        int to = page.indexOf("```", from);
        due.holds("a block of " + kind, page.contains(head) && to > from);
        return to > from ? page.substring(from, to) : "";
    }

    private static String printed(String program) throws Exception {
        Path folder = Files.createTempDirectory("readme");
        try {
            compile(program, folder);
            try (URLClassLoader loader = new URLClassLoader(new URL[] {folder.toUri().toURL()})) {
                return outputOf(loader.loadClass("Example").getMethod("main", String[].class));
            }
        } finally {
            empty(folder);
        }
    }

    private static void compile(String program, Path folder) throws IOException {
        Path file = Files.writeString(folder.resolve("Example.java"), program);
        JavaCompiler compiler = ToolProvider.getSystemJavaCompiler();
        List<String> options = List.of("-cp", System.getProperty("java.class.path"), "-d", folder.toString());
        try (StandardJavaFileManager files = compiler.getStandardFileManager(null, null, null)) {
            due.holds("the example compiles",
                compiler.getTask(null, files, null, options, null, files.getJavaFileObjects(file)).call());
        }
    }

    private static String outputOf(Method main) throws Exception {
        PrintStream usual = System.out;
        ByteArrayOutputStream bytes = new ByteArrayOutputStream();
        System.setOut(new PrintStream(bytes, true, StandardCharsets.UTF_8));
        try {
            main.invoke(null, (Object) new String[0]);
        } finally {
            System.setOut(usual);
        }
        return bytes.toString(StandardCharsets.UTF_8).replace(System.lineSeparator(), "\n");
    }

    private static void empty(Path folder) throws IOException {
        try (Stream<Path> all = Files.walk(folder)) {
            for (Path path : all.sorted(Comparator.reverseOrder()).toList()) {
                Files.delete(path);
            }
        }
    }

    private static void names(String page) throws IllegalAccessException {
        for (Method method : OneKey.class.getDeclaredMethods()) {
            if (Modifier.isPublic(method.getModifiers())) {
                String row = "\n| `" + method.getName() + "(";
                int from = page.indexOf(row);
                due.holds("a row for " + method.getName(), from >= 0);
                due.is("parameters of " + method.getName() + " in its row", parameters(page, from + row.length()),
                    method.getParameterCount());
            }
        }
        for (Field field : OneKey.class.getFields()) {
            due.holds("a row for " + field.getName(),
                page.contains("\n| `" + field.getName() + "` | " + field.getInt(null) + " |"));
        }
    }

    private static int parameters(String page, int from) {
        String told = page.substring(from, page.indexOf(")", from));
        return told.isEmpty() ? 0 : told.split(",").length;
    }

    private static void tests(String page) throws IOException {
        try (Stream<Path> files = Files.list(Path.of("src/test/java"))) {
            for (Path file : files.toList()) {
                String name = file.getFileName().toString().replace(".java", "");
                due.holds("a row for " + name, !name.endsWith("Test") || page.contains("\n| `" + name + "` |"));
            }
        }
        due.holds("how to run them", page.contains("`bash .ci/run`"));
    }
}
