import java.io.ByteArrayOutputStream;
import java.io.File;
import java.io.IOException;
import java.io.PrintStream;
import java.lang.reflect.Method;
import java.lang.reflect.Modifier;
import java.net.URL;
import java.net.URLClassLoader;
import java.nio.charset.StandardCharsets;
import java.nio.file.Files;
import java.nio.file.Path;
import java.util.ArrayList;
import java.util.List;
import java.util.regex.Matcher;
import java.util.regex.Pattern;
import javax.tools.JavaCompiler;
import javax.tools.ToolProvider;

/** README.md: its example answers as it is printed there, and it names all calls and all tests. */
public final class ReadmeTest {
    private static final String README = "README.md";
    private static final Pattern EXAMPLE = Pattern.compile("```java\n(public final class Example .*?)```", Pattern.DOTALL);
    private static final Pattern ROW = Pattern.compile("\\s*show\\((.*)\\);\\s*(.*)");
    private static final Pattern ANSWER = Pattern.compile("// (-?\\d+|true|false)(:.*)?");

    private ReadmeTest() {
    }

    public static void main(String[] args) throws Exception {
        String page = Files.readString(Path.of(README));
        exampleAnswers(page);
        callsNamed(page);
        testsNamed(page);
        Due.end();
    }

    private static void exampleAnswers(String page) throws Exception {
        Matcher matcher = EXAMPLE.matcher(page);
        Due.is("an example", matcher.find(), true);
        String example = matcher.group(1);
        List<String> calls = new ArrayList<>();
        List<String> answers = new ArrayList<>();
        for (String line : example.split("\n")) {
            Matcher row = ROW.matcher(line);
            if (row.matches()) {
                Matcher answer = ANSWER.matcher(row.group(2));
                Due.is("an answer behind " + row.group(1), answer.matches(), true);
                calls.add(row.group(1));
                answers.add(answer.group(1));
            }
        }
        String[] printed = run(example).split("\\R");
        Due.is("answers printed", printed.length, answers.size());
        for (int i = 0; i < Math.min(printed.length, answers.size()); i++) {
            Due.is(calls.get(i) + ": " + printed[i] + ", as printed " + answers.get(i),
                printed[i].equals(answers.get(i)), true);
        }
    }

    private static String run(String example) throws Exception {
        Path directory = Files.createTempDirectory("readme");
        try {
            Path source = directory.resolve("Example.java");
            Files.writeString(source, example);
            JavaCompiler compiler = ToolProvider.getSystemJavaCompiler();
            int failed = compiler.run(null, null, null, "-encoding", "UTF-8", "-cp",
                System.getProperty("java.class.path"), "-d", directory.toString(), source.toString());
            Due.is("the example does not compile", failed, 0);
            return printed(directory);
        } finally {
            forget(directory.toFile());
        }
    }

    private static String printed(Path directory) throws Exception {
        ByteArrayOutputStream bytes = new ByteArrayOutputStream();
        PrintStream before = System.out;
        try (URLClassLoader loader = new URLClassLoader(new URL[] {directory.toUri().toURL()})) {
            System.setOut(new PrintStream(bytes, true, StandardCharsets.UTF_8));
            loader.loadClass("Example").getMethod("main", String[].class).invoke(null, (Object) new String[0]);
        } finally {
            System.setOut(before);
        }
        return bytes.toString(StandardCharsets.UTF_8);
    }

    private static void forget(File directory) throws IOException {
        for (File file : directory.listFiles()) {
            Files.delete(file.toPath());
        }
        Files.delete(directory.toPath());
    }

    private static void callsNamed(String page) {
        for (Method method : NeedNotJoin.class.getDeclaredMethods()) {
            if (Modifier.isPublic(method.getModifiers())) {
                String more = "(, \\w+){" + (method.getParameterCount() - 1) + "}";
                Pattern row = Pattern.compile("\\| `" + method.getName() + "\\(\\w+" + more + "\\)` \\| \\w+");
                Due.is("a row for " + method.getName(), row.matcher(page).find(), true);
                Due.is("in the example: " + method.getName(), page.contains("x." + method.getName() + "("), true);
            }
        }
    }

    private static void testsNamed(String page) {
        File[] tests = new File("src/test/java").listFiles((directory, name) -> name.endsWith(".java"));
        Due.is("tests", tests != null && tests.length > 0, true);
        for (File test : tests) {
            String name = test.getName().substring(0, test.getName().length() - 5);
            Due.is("named: " + name, page.contains("`" + name + "`"), true);
        }
    }
}
