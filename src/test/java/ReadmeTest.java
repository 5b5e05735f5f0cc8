import java.io.File;
import java.io.IOException;
import java.lang.reflect.Method;
import java.lang.reflect.Modifier;
import java.net.URL;
import java.net.URLClassLoader;
import java.nio.file.Files;
import java.nio.file.Path;
import java.util.ArrayList;
import java.util.List;
import java.util.regex.Matcher;
import java.util.regex.Pattern;
import java.util.stream.Stream;
import javax.tools.JavaCompiler;
import javax.tools.ToolProvider;

/** What README.md shows as use is compiled as it stands there and asked; all that there is to call and to run is named. */
public final class ReadmeTest {
    private static final String NAME = "UseOfReadme";
    private static final Pattern BLOCK = Pattern.compile("(?ms)^```java\n(.*?)^```$");
    private static final Pattern MAKING = Pattern.compile("\\w+ \\w+ = new RoastHouse\\(\\);");
    private static final Pattern SHOWN = Pattern.compile(
            "(?:(int|boolean) (\\w+) = )?(\\w+(?:\\.\\w+)?\\(.*\\)); +// (-?\\d+|true|false|NONE|NoSuchElementException)(?:: .*)?");

    private final Tally tally = new Tally();
    private final List<String> calls = new ArrayList<>();
    private final List<String> answers = new ArrayList<>();
    private final StringBuilder members = new StringBuilder();
    private final StringBuilder statements = new StringBuilder();

    public static void main(String[] args) throws Exception {
        String page = Files.readString(Path.of("README.md"));
        ReadmeTest test = new ReadmeTest();
        test.gather(page);
        test.compare(test.run());
        test.namesEachCall(page);
        test.namesEachTest(page);
        test.tally.end();
    }

    private void gather(String page) {
        tally.about("the examples");
        Matcher block = BLOCK.matcher(page);
        while (block.find()) {
            if (block.group(1).startsWith("static ")) {
                members.append(block.group(1));
            } else {
                block.group(1).lines().filter(line -> !line.isBlank()).forEach(this::addLine);
            }
        }
        if (calls.size() < 24) {
            tally.fault("only " + calls.size() + " calls are shown");
        }
    }

    /** A line is a call whose answer stands behind it, or makes the object. */
    private void addLine(String line) {
        Matcher shown = SHOWN.matcher(line);
        if (MAKING.matcher(line).matches()) {
            statements.append(line).append('\n');
        } else if (shown.matches()) {
            calls.add(shown.group(3));
            answers.add(shown.group(4).equals("NONE") ? "-1" : shown.group(4));
            addCall(shown);
        } else {
            tally.fault("no answer stands behind: " + line);
        }
    }

    private void addCall(Matcher shown) {
        String call = shown.group(3);
        if (shown.group(2) != null) {
            statements.append(shown.group(1) + " " + shown.group(2) + " = " + call + "; got.add(" + shown.group(2) + ");\n");
        } else if (shown.group(4).endsWith("Exception")) {
            statements.append("try { got.add(" + call + "); } catch (java.util." + shown.group(4)
                    + " e) { got.add(\"" + shown.group(4) + "\"); }\n");
        } else {
            statements.append("got.add(" + call + ");\n");
        }
    }

    /** What the calls answered, in their order; nothing if the page's lines are no Java. */
    private List<?> run() throws Exception {
        JavaCompiler compiler = ToolProvider.getSystemJavaCompiler();
        if (compiler == null) {
            tally.fault("this java has no compiler");
            return List.of();
        }
        Path place = Files.createTempDirectory("readme");
        Path source = place.resolve(NAME + ".java");
        Files.writeString(source, "public final class " + NAME + " {\n" + members
                + "public static java.util.List<Object> use() {\njava.util.List<Object> got = new java.util.ArrayList<>();\n"
                + statements + "return got;\n}\n}\n");
        try {
            String classPath = System.getProperty("java.class.path");
            int ended = compiler.run(null, null, null, "-cp", classPath, "-d", place.toString(), source.toString());
            if (ended != 0) {
                tally.fault("the examples do not compile");
                return List.of();
            }
            try (URLClassLoader loader = new URLClassLoader(new URL[] {place.toUri().toURL()})) {
                return (List<?>) loader.loadClass(NAME).getMethod("use").invoke(null);
            }
        } finally {
            clear(place);
        }
    }

    private static void clear(Path place) throws IOException {
        File[] files = place.toFile().listFiles();
        for (File file : files == null ? new File[0] : files) {
            Files.delete(file.toPath());
        }
        Files.delete(place);
    }

    private void compare(List<?> got) {
        for (int i = 0; i < calls.size(); i++) {
            tally.due(calls.get(i), answers.get(i), i < got.size() ? String.valueOf(got.get(i)) : "nothing");
        }
    }

    /** Each has a row with as many arguments, and an example. */
    private void namesEachCall(String page) {
        tally.about("the calls");
        for (Method method : RoastHouse.class.getDeclaredMethods()) {
            if (Modifier.isPublic(method.getModifiers())) {
                String name = method.getName();
                Matcher row = Pattern.compile("(?m)^\\| `" + name + "\\(([^)]*)\\)` \\|").matcher(page);
                int arguments = !row.find() ? -1 : row.group(1).isEmpty() ? 0 : row.group(1).split(", ").length;
                tally.due("arguments of " + name, method.getParameterCount(), arguments);
                if (calls.stream().noneMatch(call -> call.startsWith("house." + name + "("))) {
                    tally.fault("no example calls " + name);
                }
            }
        }
    }

    private void namesEachTest(String page) throws IOException {
        tally.about("the tests");
        try (Stream<Path> files = Files.list(Path.of("src/test/java"))) {
            for (Path file : files.toList()) {
                String name = file.getFileName().toString().replace(".java", "");
                if (!page.contains("`" + name + "`")) {
                    tally.fault(name + " is not on the page");
                }
            }
        }
        if (!page.contains("\nbash .ci/run\n")) {
            tally.fault("the page does not say how to run the tests");
        }
    }
}
