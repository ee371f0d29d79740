import java.io.IOException;
import java.net.URI;
import java.net.URL;
import java.net.URLClassLoader;
import java.nio.file.Files;
import java.nio.file.Path;
import java.util.List;
import java.util.regex.Matcher;
import java.util.regex.Pattern;
import java.util.stream.Stream;
import javax.tools.JavaCompiler;
import javax.tools.JavaFileObject;
import javax.tools.SimpleJavaFileObject;
import javax.tools.StandardJavaFileManager;
import javax.tools.ToolProvider;

/** What README.md shows is so: its lines of Java answer what stands behind them, and it names every test. */
public final class ReadmeTest {
    private static final Pattern LINE = Pattern.compile("(?:int (\\w+) = )?(.+);\\s+// (-?\\w+(?:\\.\\w+)?)(?::.*)?");

    public static void main(String[] args) throws ReflectiveOperationException, IOException {
        String readme = Files.readString(Path.of("README.md"));
        lookAtNames(readme);
        lookAtUse(readme);
        Due.end();
    }

    private static void lookAtNames(String readme) throws IOException {
        for (String directory : List.of("tests", "tests/support")) {
            try (Stream<Path> files = Files.list(Path.of(directory))) {
                files.filter(file -> file.toString().endsWith(".java")).forEach(file -> {
                    String name = file.getFileName().toString().replace(".java", "");
                    Due.is("README.md names " + name, readme.contains(name) ? 1 : 0, 1);
                });
            }
        }
    }

    private static void lookAtUse(String readme) throws ReflectiveOperationException, IOException {
        StringBuilder body = new StringBuilder();
        for (String block : readme.split("```java\n")) {
            if (block.contains("```")) {
                block.substring(0, block.indexOf("```")).lines().forEach(line -> body.append(checked(line)));
            }
        }
        Due.is("README.md has lines of Java with answers", body.indexOf("Due.is") >= 0 ? 1 : 0, 1);
        run("public final class Use { public static void show() {\n" + body + "} }\n");
    }

    /** The line, and behind it a look at its answer, if one stands there. */
    private static String checked(String line) {
        Matcher matcher = LINE.matcher(line.trim());
        if (!matcher.matches()) {
            return line + "\n";
        }
        String text = matcher.group(2).replace("\\", "\\\\").replace("\"", "\\\"");
        if (matcher.group(1) == null) {
            return "Due.is(\"" + text + "\", " + matcher.group(2) + ", " + matcher.group(3) + ");\n";
        }
        return line + "\nDue.is(\"" + text + "\", " + matcher.group(1) + ", " + matcher.group(3) + ");\n";
    }

    private static void run(String source) throws ReflectiveOperationException, IOException {
        JavaCompiler compiler = ToolProvider.getSystemJavaCompiler();
        Path out = Files.createTempDirectory("readme");
        JavaFileObject file = new SimpleJavaFileObject(URI.create("string:///Use.java"), JavaFileObject.Kind.SOURCE) {
            @Override
            public CharSequence getCharContent(boolean ignoreErrors) {
                return source;
            }
        };
        try (StandardJavaFileManager files = compiler.getStandardFileManager(null, null, null);
                URLClassLoader loader = new URLClassLoader(new URL[] {out.toUri().toURL()})) {
            List<String> options = List.of("-d", out.toString(), "-cp", System.getProperty("java.class.path"));
            boolean compiled = compiler.getTask(null, files, null, options, null, List.of(file)).call();
            Due.is("README.md's lines of Java can be compiled", compiled ? 1 : 0, 1);
            if (compiled) {
                loader.loadClass("Use").getMethod("show").invoke(null);
            }
        } finally {
            Files.deleteIfExists(out.resolve("Use.class"));
            Files.deleteIfExists(out);
        }
    }
}
