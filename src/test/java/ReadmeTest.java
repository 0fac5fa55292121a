import java.io.File;
import java.io.IOException;
import java.lang.reflect.Method;
import java.lang.reflect.Modifier;
import java.net.URL;
import java.net.URLClassLoader;
import java.nio.file.Files;
import java.nio.file.Path;
import java.util.ArrayList;
import java.util.List;
import java.util.Set;
import java.util.TreeSet;
import java.util.regex.Matcher;
import java.util.regex.Pattern;
import java.util.stream.Stream;
import javax.tools.JavaCompiler;
import javax.tools.ToolProvider;

/**
 * The calls that README.md shows answer what README.md says. Its blocks of Java are made into one program as they stand:
 * each statement that is a call on lodger must say behind // what it answers, or what it throws.
 */
public final class ReadmeTest {
    private static final Path README = Path.of("README.md");
    private static final Path TESTS = Path.of("src/test/java");
    private static final Pattern BLOCK = Pattern.compile("^```java\\n(.*?)^```$", Pattern.DOTALL | Pattern.MULTILINE);
    private static final Pattern CALL = Pattern.compile("lodger\\.(\\w+)\\(.*\\)");
    private static final Pattern SAID = Pattern.compile("(-?\\d+|throws \\w+): \\S.*");

    private static final Set<String> shown = new TreeSet<>();

    private ReadmeTest() { }

    /** Called by the program that is made of README.md. */
    public static void held(String call, String want, String got) {
        Check.must(want.equals(got), call + " is " + want + ", as README.md says, but " + got);
    }

    private static List<String> blocks(String page) {
        List<String> found = new ArrayList<>();
        for (Matcher block = BLOCK.matcher(page); block.find();) {
            found.add(block.group(1));
        }
        return found;
    }

    private static String quoted(String text) {
        return "\"" + text.replace("\\", "\\\\").replace("\"", "\\\"") + "\"";
    }

    /** A statement and what is said behind it, as a statement that holds one against the other. */
    private static String holding(String statement, String said) {
        Matcher call = CALL.matcher(statement);
        if (!call.matches()) {
            return statement + ";\n";
        }
        shown.add(call.group(1));
        if (!SAID.matcher(said).matches()) {
            Check.fail("README.md does not say what this answers: " + statement);
        }
        String want = said.split(":")[0];
        String head = "ReadmeTest.held(" + quoted(statement) + ", " + quoted(want) + ", ";
        return "try {\n" + head + "String.valueOf(" + statement + "));\n"
                + "} catch (RuntimeException e) {\n" + head + "\"throws \" + e.getClass().getSimpleName());\n}\n";
    }

    /** Statements end with a ; at a line's end, or ahead of what is said behind them. */
    private static String heldBlock(String block) {
        StringBuilder program = new StringBuilder();
        StringBuilder statement = new StringBuilder();
        for (String line : block.split("\n")) {
            Matcher end = Pattern.compile("(.*);\\s*(?://\\s*(.*))?").matcher(line);
            if (end.matches() && (end.group(2) != null || line.endsWith(";"))) {
                statement.append(end.group(1).strip());
                program.append(holding(statement.toString(), end.group(2) == null ? "" : end.group(2)));
                statement.setLength(0);
            } else {
                statement.append(line.strip()).append(' ');
            }
        }
        if (!statement.toString().isBlank()) {
            Check.fail("README.md has half a statement: " + statement);
        }
        return program.toString();
    }

    private static String program(String page) {
        StringBuilder functions = new StringBuilder();
        StringBuilder statements = new StringBuilder();
        for (String block : blocks(page)) {
            if (block.startsWith("static ")) {
                functions.append(block);
            } else {
                statements.append(heldBlock(block));
            }
        }
        return "public final class Shown {\n" + functions
                + "public static void run() {\n" + statements + "}\n}\n";
    }

    private static void runShown(String program) throws IOException, ReflectiveOperationException {
        JavaCompiler compiler = ToolProvider.getSystemJavaCompiler();
        Path directory = Files.createTempDirectory("readme");
        Path file = directory.resolve("Shown.java");
        Files.writeString(file, program);
        String classes = System.getProperty("java.class.path");
        if (compiler.run(null, null, null, "-d", directory.toString(), "-cp", classes, file.toString()) != 0) {
            Check.fail("README.md's blocks of Java can't be compiled");
        } else {
            try (URLClassLoader loader = new URLClassLoader(new URL[] {directory.toUri().toURL()})) {
                loader.loadClass("Shown").getMethod("run").invoke(null);
            }
        }
        for (File made : directory.toFile().listFiles()) {
            made.delete();
        }
        Files.delete(directory);
    }

    private static void seeCalls(String page) {
        for (Method method : TideLodger.class.getDeclaredMethods()) {
            if (Modifier.isPublic(method.getModifiers())) {
                Check.must(page.contains("`" + method.getName() + "("), "README.md tells of " + method.getName());
                Check.must(shown.contains(method.getName()), "README.md shows " + method.getName());
            }
        }
    }

    private static void seeTests(String page) throws IOException {
        Check.must(page.contains("`bash .ci/run`"), "README.md says how the tests are run");
        try (Stream<Path> files = Files.list(TESTS)) {
            for (Path file : files.toList()) {
                String name = file.getFileName().toString().replace(".java", "");
                Check.must(page.contains("`" + name + "`"), "README.md tells of " + name);
            }
        }
    }

    public static void main(String[] args) throws IOException, ReflectiveOperationException {
        Check.watch();
        String page = Files.readString(README);
        runShown(program(page));
        seeCalls(page);
        seeTests(page);
        Check.end("ReadmeTest");
    }
}
