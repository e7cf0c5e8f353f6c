import java.io.ByteArrayOutputStream;
import java.io.IOException;
import java.io.PrintStream;
import java.lang.reflect.Method;
import java.net.URL;
import java.net.URLClassLoader;
import java.nio.file.Files;
import java.nio.file.Path;
import java.util.ArrayList;
import java.util.Comparator;
import java.util.List;
import java.util.TreeSet;
import java.util.regex.Matcher;
import java.util.regex.Pattern;
import java.util.stream.Stream;
import javax.tools.JavaCompiler;
import javax.tools.ToolProvider;

/** What README.md says of the class's use and of its tests is so. */
public final class ReadmeTest {
    private static final String CLASS_FILE = "src/main/java/MarkedTrees.java";
    private static final String EXAMPLE_FILE = "Example.java";

    private final Checks checks = new Checks("ReadmeTest");
    private final String readme;

    private ReadmeTest(String readme) {
        this.readme = readme;
    }

    public static void main(String[] args) throws Exception {
        ReadmeTest test = new ReadmeTest(Files.readString(Path.of("README.md")));
        test.exampleAnswersAsWritten();
        test.commandsAreThere();
        test.callsAreThoseOfTheFace();
        test.testsAreThoseOfTheProject();
        test.checks.end();
    }

    private void exampleAnswersAsWritten() throws Exception {
        List<String> examples = found("(?ms)^```java\\n(.*?)^```$");
        checks.due("examples", examples.size(), 1);
        for (String example : examples) {
            List<String> due = printsWritten(example);
            checks.due("the example prints something", due.size() > 0, true);
            List<String> printed = printsOf(example);
            checks.due("lines that the example prints", printed.size(), due.size());
            for (int i = 0; i < due.size() && i < printed.size(); i++) {
                checks.due("line " + i + " of the example", printed.get(i), due.get(i));
            }
        }
    }

    /** Behind each line that prints: the text up to a colon, which the reason stands behind. */
    private List<String> printsWritten(String example) {
        List<String> prints = new ArrayList<>();
        for (String line : example.lines().toList()) {
            if (line.contains("System.out.print")) {
                Matcher written = Pattern.compile("; +// ([^:]+): .+$").matcher(line);
                boolean isWritten = written.find();
                checks.due("an answer stands behind " + line.trim(), isWritten, true);
                prints.add(isWritten ? written.group(1) : "");
            }
        }
        return prints;
    }

    private List<String> printsOf(String example) throws Exception {
        Path room = Files.createTempDirectory("readme");
        try {
            Path source = room.resolve(EXAMPLE_FILE);
            Files.writeString(source, example);
            boolean compiled = compiles(source, room.resolve("out"));
            checks.due("the example compiles", compiled, true);
            return compiled ? printsOfMain(room.resolve("out")) : List.of();
        } finally {
            remove(room);
        }
    }

    private static boolean compiles(Path source, Path out) {
        JavaCompiler compiler = ToolProvider.getSystemJavaCompiler();
        return compiler != null && 0 == compiler.run(null, null, null,
            "-Xlint:all", "-Werror", "-d", out.toString(), CLASS_FILE, source.toString());
    }

    private static List<String> printsOfMain(Path out) throws Exception {
        ByteArrayOutputStream bytes = new ByteArrayOutputStream();
        PrintStream before = System.out;
        URL[] places = {out.toUri().toURL()};
        // The class is the one that was compiled with the example, not the one beside this test.
        try (URLClassLoader loader = new URLClassLoader(places, ClassLoader.getPlatformClassLoader())) {
            System.setOut(new PrintStream(bytes, true));
            Method main = loader.loadClass("Example").getMethod("main", String[].class);
            main.invoke(null, (Object) new String[0]);
        } finally {
            System.setOut(before);
        }
        return bytes.toString().lines().toList();
    }

    private static void remove(Path room) throws IOException {
        try (Stream<Path> files = Files.walk(room)) {
            for (Path file : files.sorted(Comparator.reverseOrder()).toList()) {
                Files.delete(file);
            }
        }
    }

    private void commandsAreThere() {
        List<String> commands = found("(?m)^    (\\S.*)$").stream().filter(ReadmeTest::isShellLine).toList();
        checks.due("commands", String.join("\n", commands), String.join("\n",
            "javac -d out " + CLASS_FILE + " " + EXAMPLE_FILE,
            "java -cp out Example",
            ".ci/run"));
        checks.due("the script can be run", Files.isExecutable(Path.of(".ci/run")), true);
    }

    private static boolean isShellLine(String line) {
        return line.startsWith("java") || line.startsWith(".");
    }

    private void callsAreThoseOfTheFace() {
        List<String> written = found("(?m)^\\| `(\\w+\\(.*?\\))` \\|");
        TreeSet<String> counted = new TreeSet<>();
        for (String call : written) {
            String parameters = call.substring(call.indexOf('(') + 1, call.length() - 1);
            int count = parameters.isEmpty() ? 0 : parameters.split(", ").length;
            counted.add(call.substring(0, call.indexOf('(')) + " " + count);
        }
        TreeSet<String> face = new TreeSet<>();
        face.add("MarkedTrees 0");
        for (Method method : MarkedTrees.class.getMethods()) {
            if (method.getDeclaringClass() == MarkedTrees.class) {
                face.add(method.getName() + " " + method.getParameterCount());
            }
        }
        checks.due("rows of calls", written.size(), face.size());
        checks.due("calls", counted.toString(), face.toString());
    }

    private void testsAreThoseOfTheProject() throws IOException {
        List<String> written = found("(?m)^\\| `(\\w+Test)` \\|");
        TreeSet<String> tests = new TreeSet<>();
        try (Stream<Path> files = Files.list(Path.of("src/test/java"))) {
            for (Path file : files.toList()) {
                String name = file.getFileName().toString();
                if (name.endsWith("Test.java")) {
                    tests.add(name.substring(0, name.length() - ".java".length()));
                }
            }
        }
        checks.due("rows of tests", written.size(), tests.size());
        checks.due("tests", new TreeSet<>(written).toString(), tests.toString());
    }

    /** The first group of each place that an expression finds in README.md. */
    private List<String> found(String expression) {
        List<String> all = new ArrayList<>();
        Matcher matcher = Pattern.compile(expression).matcher(readme);
        while (matcher.find()) {
            all.add(matcher.group(1));
        }
        return all;
    }
}
