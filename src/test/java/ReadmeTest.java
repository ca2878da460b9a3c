import java.io.ByteArrayOutputStream;
import java.io.PrintStream;
import java.lang.reflect.Method;
import java.lang.reflect.Modifier;
import java.net.URL;
import java.net.URLClassLoader;
import java.nio.charset.StandardCharsets;
import java.nio.file.Files;
import java.nio.file.Path;
import java.util.Comparator;
import java.util.List;
import java.util.stream.Stream;
import javax.tools.ToolProvider;

/** README.md tells how to use the class: its program prints what it says, and its table has each call. */
public final class ReadmeTest {
    private static int wrong = 0;

    public static void main(String[] args) throws Exception {
        String readme = Files.readString(Path.of("README.md"));
        String due = block(readme, "text");
        String printed = printedBy(block(readme, "java"));
        if (!due.equals(printed)) {
            tell("the program of README.md prints\n" + printed + "but README.md says\n" + due);
        }
        for (Method method : RuneSticks.class.getDeclaredMethods()) {
            if (Modifier.isPublic(method.getModifiers()) && !hasRow(readme, method)) {
                tell("README.md has no row for " + method.getName() + " and its arguments");
            }
        }
        System.out.println(wrong == 0 ? "README.md says what is so" : wrong + " faults in README.md");
        if (wrong != 0) {
            System.exit(1);
        }
    }

    private static void tell(String fault) {
        wrong++;
        System.out.println(fault);
    }

    private static String block(String readme, String kind) {
        String opening = "```" + kind + "\n";
        int from = readme.indexOf(opening);
        int to = from < 0 ? -1 : readme.indexOf("```\n", from + opening.length());
        if (to < 0) {
            tell("README.md has no block of " + kind);
            return "";
        }
        return readme.substring(from + opening.length(), to);
    }

    private static boolean hasRow(String readme, Method method) {
        String opening = "\n| `" + method.getName() + "(";
        int from = readme.indexOf(opening);
        int to = from < 0 ? -1 : readme.indexOf(")` |", from);
        if (to < 0) {
            return false;
        }
        String names = readme.substring(from + opening.length(), to);
        return (names.isEmpty() ? 0 : names.split(", ").length) == method.getParameterCount();
    }

    private static String printedBy(String program) throws Exception {
        Path directory = Files.createTempDirectory("readme");
        try {
            Path file = directory.resolve("Example.java");
            Files.writeString(file, program);
            int failed = ToolProvider.getSystemJavaCompiler().run(null, null, null, "-proc:none", "-cp",
                System.getProperty("java.class.path"), "-d", directory.toString(), file.toString());
            if (failed != 0) {
                tell("the program of README.md does not compile");
                return "";
            }
            return outputOf(directory);
        } finally {
            remove(directory);
        }
    }

    private static String outputOf(Path directory) throws Exception {
        PrintStream before = System.out;
        ByteArrayOutputStream told = new ByteArrayOutputStream();
        try (URLClassLoader loader = new URLClassLoader(new URL[] {directory.toUri().toURL()},
            ReadmeTest.class.getClassLoader())) {
            System.setOut(new PrintStream(told, true, StandardCharsets.UTF_8));
            loader.loadClass("Example").getMethod("main", String[].class).invoke(null, (Object) new String[0]);
        } finally {
            System.setOut(before);
        }
        return told.toString(StandardCharsets.UTF_8).replace(System.lineSeparator(), "\n");
    }

    private static void remove(Path directory) throws Exception {
        List<Path> all;
        try (Stream<Path> walked = Files.walk(directory)) {
            all = walked.sorted(Comparator.reverseOrder()).toList();
        }
        for (Path each : all) {
            Files.delete(each);
        }
    }
}
