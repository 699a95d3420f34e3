import java.io.File;
import java.io.IOException;
import java.lang.reflect.Method;
import java.lang.reflect.Modifier;
import java.net.URL;
import java.net.URLClassLoader;
import java.nio.file.Files;
import java.nio.file.Path;
import java.util.ArrayList;
import java.util.List;
import java.util.Set;
import java.util.TreeSet;
import java.util.regex.Matcher;
import java.util.regex.Pattern;
import javax.tools.ToolProvider;

/**
 * README.md: the rows of its java blocks are compiled, run and held to the answers that they show;
 * every call of the face is shown, and every test is named. Run in the project's folder.
 */
public final class ReadmeTest {
    private static final String ROWS = "ReadmeRows";
    private static final Pattern BLOCK = Pattern.compile("(?ms)^```java\n(.*?)^```$");
    private static final Pattern NEW = Pattern.compile("Mutualledger circle = new Mutualledger\\(\\);");
    private static final Pattern ROW = Pattern.compile(
        "(?:int (\\w+) = )?(circle\\.(\\w+)\\([^;]*\\)); +// (-?\\d+|true|false|[A-Z]\\w+Exception)(?:: .+)?");
    private static final Pattern NAMED = Pattern.compile("(?m)^\\| `(\\w+)` \\|");

    private static final Set<String> shown = new TreeSet<>();

    /** A row of a block as a statement that holds it to its answer; empty if it can't be read. */
    private static String statement(String row) {
        if (NEW.matcher(row).matches()) {
            return row + "\n";
        }
        Matcher m = ROW.matcher(row);
        if (!m.matches()) {
            return "";
        }
        shown.add(m.group(3));
        String what = "\"README.md: " + m.group(2) + "\", ";
        String answer = m.group(4);
        if (answer.endsWith("Exception")) {
            return "Check.thrown(" + what + answer + ".class, () -> " + m.group(2) + ");\n";
        }
        if (m.group(1) == null) {
            return "Check.due(" + what + m.group(2) + ", " + answer + ");\n";
        }
        return "int " + m.group(1) + " = " + m.group(2) + ";\nCheck.due(" + what + m.group(1) + ", " + answer + ");\n";
    }

    /** The blocks as a program. */
    private static String program(String text) {
        StringBuilder s = new StringBuilder("public final class " + ROWS + " {\npublic static void main(String[] args) {\n");
        Matcher block = BLOCK.matcher(text);
        int blocks = 0;
        while (block.find()) {
            blocks++;
            s.append("{\n");
            for (String row : block.group(1).split("\n")) {
                String statement = statement(row);
                Check.due("the row can be read: " + row, statement.isEmpty(), false);
                s.append(statement);
            }
            s.append("}\n");
        }
        Check.due("there are blocks", blocks > 0, true);
        return s.append("Check.end(\"" + ROWS + "\");\n}\n}\n").toString();
    }

    /** Runs it with classes of its own, so that it counts apart; it ends all with 1 if a row is wrong. */
    private static void run(String program, Path folder) throws IOException, ReflectiveOperationException {
        String path = System.getProperty("java.class.path");
        Path source = folder.resolve(ROWS + ".java");
        Files.writeString(source, program);
        int failed = ToolProvider.getSystemJavaCompiler().run(null, null, null,
            "-d", folder.toString(), "-cp", path, source.toString());
        Check.due("the rows compile", failed, 0);
        if (failed != 0) {
            return;
        }
        List<URL> urls = new ArrayList<>();
        urls.add(folder.toUri().toURL());
        for (String part : path.split(File.pathSeparator)) {
            urls.add(Path.of(part).toUri().toURL());
        }
        try (URLClassLoader loader = new URLClassLoader(urls.toArray(new URL[0]), ClassLoader.getPlatformClassLoader())) {
            loader.loadClass(ROWS).getMethod("main", String[].class).invoke(null, (Object) new String[0]);
        }
    }

    private static void rows(String text) throws IOException, ReflectiveOperationException {
        Path folder = Files.createTempDirectory(ROWS);
        // what is named last is deleted first, the folder behind its files
        folder.toFile().deleteOnExit();
        folder.resolve(ROWS + ".java").toFile().deleteOnExit();
        folder.resolve(ROWS + ".class").toFile().deleteOnExit();
        run(program(text), folder);
    }

    private static void everyCallIsShown() {
        Set<String> face = new TreeSet<>();
        for (Method m : Mutualledger.class.getDeclaredMethods()) {
            if (Modifier.isPublic(m.getModifiers())) {
                face.add(m.getName());
            }
        }
        Check.same("the calls that README.md shows", shown.toString(), face.toString());
    }

    private static void everyTestIsNamed(String text) throws IOException {
        Set<String> named = new TreeSet<>();
        Matcher m = NAMED.matcher(text);
        while (m.find()) {
            named.add(m.group(1));
        }
        Set<String> tests = new TreeSet<>();
        try (var files = Files.list(Path.of("src/test/java"))) {
            for (Path file : files.toList()) {
                String name = file.getFileName().toString();
                if (name.endsWith("Test.java")) {
                    tests.add(name.substring(0, name.length() - ".java".length()));
                }
            }
        }
        Check.same("the tests that README.md names", named.toString(), tests.toString());
    }

    public static void main(String[] args) throws IOException, ReflectiveOperationException {
        String text = Files.readString(Path.of("README.md"));
        rows(text);
        everyCallIsShown();
        everyTestIsNamed(text);
        Check.end("ReadmeTest");
    }
}
