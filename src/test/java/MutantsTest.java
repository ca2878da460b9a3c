import java.io.IOException;
import java.io.StringWriter;
import java.lang.reflect.Method;
import java.net.URI;
import java.net.URL;
import java.net.URLClassLoader;
import java.nio.file.Files;
import java.nio.file.Path;
import java.util.ArrayList;
import java.util.Comparator;
import java.util.List;
import java.util.stream.Stream;
import javax.tools.JavaCompiler;
import javax.tools.JavaFileObject;
import javax.tools.SimpleJavaFileObject;
import javax.tools.StandardJavaFileManager;
import javax.tools.ToolProvider;

/**
 * Sees to it that each boundary test can fail: for each way to break its sentence that it names, the class is broken
 * in this way, and the test must find it.
 */
public final class MutantsTest {
    private static final Path CLASS_FILE = Path.of("src/main/java/RuneSticks.java");

    public static void main(String[] args) throws Exception {
        String source = Files.readString(CLASS_FILE);
        int broken = 0;
        int wrong = 0;
        for (Method test : BoundariesTest.tests()) {
            Broken[] ways = test.getAnnotationsByType(Broken.class);
            if (ways.length == 0) {
                wrong++;
                System.out.println(test.getName() + " names no way to break its sentence");
            }
            for (Broken way : ways) {
                broken++;
                String why = whyNotFound(test, way, source);
                if (why != null) {
                    wrong++;
                    System.out.println(test.getName() + " " + why + ": in " + way.in() + " " + way.from() + " -> "
                        + way.to());
                }
            }
        }
        System.out.println(broken + " ways to break the class, " + wrong + " not found by their tests");
        if (wrong != 0) {
            System.exit(1);
        }
    }

    private static String whyNotFound(Method test, Broken way, String source) throws Exception {
        String changed = changed(source, way);
        if (changed == null) {
            return "has a way that does not match the class";
        }
        Path classes = Files.createTempDirectory("mutant");
        try {
            String message = compiled(changed, classes);
            if (message != null) {
                return "has a way that does not compile (" + message + ")";
            }
            return finds(test, classes) ? null : "does not find what is broken";
        } finally {
            remove(classes);
        }
    }

    /** The source with "from" replaced, if it stands behind "in" and ahead of the end of this member; or null. */
    private static String changed(String source, Broken way) {
        int in = source.indexOf(way.in());
        if (in < 0 || source.indexOf(way.in(), in + 1) >= 0) {
            return null;
        }
        int line = source.lastIndexOf('\n', in) + 1;
        int indent = line;
        while (source.charAt(indent) == ' ') {
            indent++;
        }
        int end = source.indexOf("\n" + source.substring(line, indent) + "}\n", in);
        int from = source.indexOf(way.from(), in);
        if (from < 0 || end < 0 || from > end) {
            return null;
        }
        return source.substring(0, from) + way.to() + source.substring(from + way.from().length());
    }

    private static String compiled(String source, Path classes) throws IOException {
        JavaCompiler compiler = ToolProvider.getSystemJavaCompiler();
        JavaFileObject file = new SimpleJavaFileObject(URI.create("string:///RuneSticks.java"),
            JavaFileObject.Kind.SOURCE) {
            @Override
            public CharSequence getCharContent(boolean ignoreEncodingErrors) {
                return source;
            }
        };
        StringWriter told = new StringWriter();
        try (StandardJavaFileManager files = compiler.getStandardFileManager(null, null, null)) {
            boolean done = compiler.getTask(told, files, null, List.of("-d", classes.toString(), "-proc:none"), null,
                List.of(file)).call();
            return done ? null : told.toString();
        }
    }

    private static boolean finds(Method test, Path classes) throws Exception {
        List<URL> where = new ArrayList<>();
        where.add(classes.toUri().toURL());
        for (String each : System.getProperty("java.class.path").split(java.io.File.pathSeparator)) {
            where.add(Path.of(each).toUri().toURL());
        }
        try (URLClassLoader loader = new URLClassLoader(where.toArray(new URL[0]),
            ClassLoader.getPlatformClassLoader())) {
            Method again = loader.loadClass(test.getDeclaringClass().getName()).getDeclaredMethod(test.getName());
            return BoundariesTest.wrongIn(again) != null;
        }
    }

    private static void remove(Path directory) throws IOException {
        try (Stream<Path> all = Files.walk(directory)) {
            for (Path each : all.sorted(Comparator.reverseOrder()).toList()) {
                Files.delete(each);
            }
        }
    }
}
