import java.lang.reflect.Field;
import java.lang.reflect.Method;
import java.lang.reflect.Modifier;
import java.nio.file.Files;
import java.nio.file.Path;
import java.util.Arrays;
import java.util.TreeSet;
import java.util.regex.Matcher;
import java.util.regex.Pattern;

/** The public face of the document, and the rules of LANGUAGE.md that can be seen without reading. */
public final class LanguageTest {
    private static final Due due = new Due("LanguageTest");
    private static final Path SOURCE = Path.of("src/main/java/OneKey.java");
    private static final String FACE = """
        int write(long,int)
        int erase()
        int fault()
        int gaol()
        int room(int,int)
        int door(int,int)
        int as(int,int)
        int act(int)
        int guard(int,int)
        int fewest(int)
        int by(int)
        int worth(int)
        int out(int)
        long odds(int,int,int)
        int row(int)
        int burn()
        int judge()
        int heard(int,int)
        int forget()
        long night(int,int)
        int ask(int)
        int keep(int)
        int back(int)
        int count(int)
        """;

    public static void main(String[] args) throws Exception {
        face();
        statics(OneKey.class);
        for (Class<?> inside : OneKey.class.getDeclaredClasses()) {
            due.holds(inside + " is static", Modifier.isStatic(inside.getModifiers()));
            due.holds(inside + " is not public", !Modifier.isPublic(inside.getModifiers()));
            statics(inside);
        }
        due.holds("at most twelve classes", OneKey.class.getDeclaredClasses().length < 12);
        words(Files.readString(SOURCE));
        due.end();
    }

    private static void face() {
        TreeSet<String> want = new TreeSet<>(Arrays.asList(FACE.split("\n")));
        TreeSet<String> got = new TreeSet<>();
        TreeSet<String> hidden = new TreeSet<>();
        for (Method method : OneKey.class.getDeclaredMethods()) {
            if (Modifier.isPublic(method.getModifiers())) {
                String types = String.join(",", Arrays.stream(method.getParameterTypes()).map(Class::getName).toList());
                got.add(method.getReturnType() + " " + method.getName() + "(" + types + ")");
            } else {
                due.holds(method + " is private", Modifier.isPrivate(method.getModifiers()));
                hidden.add(method.getName());
            }
        }
        due.holds("methods " + got, got.equals(want));
        for (String name : hidden) {
            due.holds(name + " is no public name", !FACE.contains(" " + name + "("));
        }
        due.is("constructors", OneKey.class.getConstructors().length, 1);
        due.is("constructors in all", OneKey.class.getDeclaredConstructors().length, 1);
        due.is("parameters", OneKey.class.getConstructors()[0].getParameterCount(), 0);
        due.holds("final", Modifier.isFinal(OneKey.class.getModifiers()));
        TreeSet<String> constants = new TreeSet<>();
        for (Field field : OneKey.class.getDeclaredFields()) {
            if (!Modifier.isPrivate(field.getModifiers())) {
                constants.add(field.getName());
            }
        }
        due.holds("constants " + constants, constants.toString().equals("[FULL, NONE, NOT, OUTSIDE, UNKNOWN]"));
    }

    private static void statics(Class<?> type) {
        int fields = 0;
        for (Field field : type.getDeclaredFields()) {
            if (Modifier.isStatic(field.getModifiers())) {
                due.holds(field + " is final", Modifier.isFinal(field.getModifiers()));
            } else {
                fields++;
            }
        }
        due.holds(type + " has few fields", fields <= 20);
        for (Method method : type.getDeclaredMethods()) {
            due.holds(method + " has few parameters", method.getParameterCount() <= 7);
        }
    }

    private static void words(String source) {
        String code = source.replaceAll("(?s)/\\*.*?\\*/", "").replaceAll("//[^\n]*", "").replaceAll("\"[^\"]*\"", "\"\"");
        String[] never = {"throw", "throws", "try", "catch", "synchronized", "assert", "System\\.(?!arraycopy)", "->", "::",
            "Object", "package", "float", "double", "Exact", "var", "import (?!java\\.util\\.Arrays;)"};
        for (String word : never) {
            String pattern = Character.isLetter(word.charAt(0)) ? "\\b" + word : word;
            Matcher matcher = Pattern.compile(pattern.matches(".*[a-z]") ? pattern + "\\b" : pattern).matcher(code);
            due.holds("no " + word, !matcher.find());
        }
        int lines = 0;
        String head = "";
        for (String line : code.split("\n")) {
            if (line.matches("( {4}| {8})[a-z].*\\) \\{")) {
                head = line;
                lines = 0;
            }
            lines++;
            if (line.matches("( {4}| {8})}")) {
                due.holds(head.trim() + " is short", lines <= 60);
            }
        }
    }
}
