import java.io.IOException;
import java.io.StringWriter;
import java.lang.reflect.Method;
import java.lang.reflect.Modifier;
import java.net.URL;
import java.net.URLClassLoader;
import java.nio.file.Files;
import java.nio.file.Path;
import java.util.ArrayList;
import java.util.List;
import java.util.regex.Matcher;
import java.util.regex.Pattern;
import javax.tools.JavaCompiler;
import javax.tools.StandardJavaFileManager;
import javax.tools.ToolProvider;

/** The example of use in README.md: it compiles as it is printed, and each of its calls gives the answer told there. */
public final class ReadmeTest {
    private static final Pattern BLOCK = Pattern.compile("(?ms)^```java\n(.*?)^```$");
    private static final Pattern TOLD = Pattern.compile("(x\\.(\\w+)\\(.*\\));\\s+// (-?[0-9]+|BAD|STATE|FULL|NONE|NO)\\b.*");

    private final Due due = new Due("ReadmeTest");
    private final List<String> calls = new ArrayList<>();
    private final List<Long> wanted = new ArrayList<>();

    public static void main(String[] args) throws IOException, ReflectiveOperationException {
        new ReadmeTest().run();
    }

    private void run() throws IOException, ReflectiveOperationException {
        String example = readExample();
        String asking = askEachLine(example);
        everyCallIsShown();
        compare(answersOf(example, asking));
        due.end();
    }

    private String readExample() throws IOException {
        Matcher block = BLOCK.matcher(Files.readString(Path.of("README.md")));
        List<String> blocks = new ArrayList<>();
        while (block.find()) {
            blocks.add(block.group(1));
        }
        due.is("examples in README.md", blocks.size(), 1);
        return String.join("", blocks);
    }

    /** The example with each line's call handing its answer on; each such line must tell one. */
    private String askEachLine(String example) throws ReflectiveOperationException {
        StringBuilder asking = new StringBuilder();
        for (String line : example.split("\n")) {
            Matcher told = TOLD.matcher(line);
            boolean tells = told.matches();
            if (line.startsWith("x.")) {
                due.is("'" + line + "' tells an answer", tells ? 1 : 0, 1);
            }
            if (tells) {
                calls.add(told.group(1));
                wanted.add(number(told.group(3)));
                asking.append("answers.add(0L + ").append(told.group(1)).append(");\n");
            } else {
                asking.append(line).append('\n');
            }
        }
        return asking.toString();
    }

    private static long number(String answer) throws ReflectiveOperationException {
        return Character.isLetter(answer.charAt(0)) ? SwingCity.class.getField(answer).getInt(null) : Long.parseLong(answer);
    }

    private void everyCallIsShown() {
        for (Method m : SwingCity.class.getDeclaredMethods()) {
            if (Modifier.isPublic(m.getModifiers())) {
                boolean isShown = calls.stream().anyMatch(call -> call.startsWith("x." + m.getName() + "("));
                due.is("the example shows " + m.getName(), isShown ? 1 : 0, 1);
            }
        }
    }

    private List<?> answersOf(String example, String asking) throws IOException, ReflectiveOperationException {
        Path room = Files.createTempDirectory("readme");
        Path source = room.resolve("Example.java");
        Files.writeString(source, "public final class Example {\n"
            + "public static void asPrinted() {\n" + example + "}\n"
            + "public static java.util.List<Long> answers() {\n"
            + "java.util.List<Long> answers = new java.util.ArrayList<>();\n" + asking + "return answers;\n}\n}\n");
        try {
            if (!compiles(source, room)) {
                return List.of();
            }
            try (URLClassLoader loader = new URLClassLoader(new URL[] {room.toUri().toURL()})) {
                Class<?> made = loader.loadClass("Example");
                made.getMethod("asPrinted").invoke(null);
                return (List<?>) made.getMethod("answers").invoke(null);
            }
        } finally {
            Files.deleteIfExists(room.resolve("Example.class"));
            Files.delete(source);
            Files.delete(room);
        }
    }

    private boolean compiles(Path source, Path room) throws IOException {
        JavaCompiler javac = ToolProvider.getSystemJavaCompiler();
        StringWriter said = new StringWriter();
        List<String> options = List.of("--release", "17", "-Xlint:all", "-Werror",
            "-cp", System.getProperty("java.class.path"), "-d", room.toString());
        boolean compiles;
        try (StandardJavaFileManager files = javac.getStandardFileManager(null, null, null)) {
            compiles = javac.getTask(said, files, null, options, null, files.getJavaFileObjects(source)).call();
        }
        System.out.print(said);
        due.is("the example compiles", compiles ? 1 : 0, 1);
        return compiles;
    }

    private void compare(List<?> answers) {
        due.is("calls answered", answers.size(), calls.size());
        for (int i = 0; i < Math.min(calls.size(), answers.size()); i++) {
            due.is(calls.get(i), (Long) answers.get(i), wanted.get(i));
        }
    }
}
