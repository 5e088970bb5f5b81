import java.io.IOException;
import java.net.URL;
import java.net.URLClassLoader;
import java.nio.file.Files;
import java.nio.file.Path;
import java.util.ArrayList;
import java.util.List;
import java.util.Set;
import java.util.TreeSet;
import java.util.regex.Matcher;
import java.util.regex.Pattern;
import java.util.stream.Collectors;
import java.util.stream.Stream;
import javax.tools.JavaCompiler;
import javax.tools.ToolProvider;

/** What README.md says must be so: its example is compiled and run as it stands there, its names are those of the project. */
public final class ReadmeTest {
    private static final Path TESTS = Path.of("src/test/java");
    private static final Pattern BLOCK = Pattern.compile("(?s)```java\n(.*?)```");
    private static final Pattern SHOWN = Pattern.compile("(x\\.\\w+\\(.*\\)); +// (-?\\d+)(\\D.*)?");
    private static int wrong = 0;

    private ReadmeTest() {
    }

    private static void must(boolean holds, String what) {
        if (!holds) {
            wrong++;
            System.out.println("README.md, not so: " + what);
        }
    }

    private static Set<String> found(String regex, String text) {
        Set<String> all = new TreeSet<>();
        Matcher matcher = Pattern.compile(regex).matcher(text);
        while (matcher.find()) {
            all.add(matcher.group(1));
        }
        return all;
    }

    private static List<String> example(String readme) {
        List<String> lines = new ArrayList<>();
        Matcher block = BLOCK.matcher(readme);
        while (block.find()) {
            lines.addAll(List.of(block.group(1).split("\n")));
        }
        return lines;
    }

    /** Lines that show an answer ask for it; the others stay as they are. */
    private static String program(List<String> lines) {
        StringBuilder code = new StringBuilder("public final class Example {\n  public static int run() {\n    int[] wrong = {0};\n");
        for (String line : lines) {
            Matcher shown = SHOWN.matcher(line);
            if (shown.matches()) {
                code.append("due(wrong, \"").append(shown.group(1)).append("\", ").append(shown.group(1)).append(", ")
                        .append(shown.group(2)).append("L);\n");
            } else {
                must(!line.startsWith("x."), "a call without an answer: " + line);
                code.append(line).append("\n");
            }
        }
        return code.append("    return wrong[0];\n  }\n  private static void due(int[] wrong, String call, long got, long want) {\n")
                .append("    if (got != want) { wrong[0]++; System.out.println(\"README.md: \" + call + \" answers \" + got + \", not \" + want); }\n")
                .append("  }\n}\n").toString();
    }

    private static void runExample(String program) throws Exception {
        JavaCompiler compiler = ToolProvider.getSystemJavaCompiler();
        Path folder = Files.createTempDirectory("readme");
        Path source = Files.writeString(folder.resolve("Example.java"), program);
        int compiled = compiler.run(null, null, null, "-cp", System.getProperty("java.class.path"), "-d", folder.toString(), source.toString());
        must(compiled == 0, "the example compiles");
        if (compiled == 0) {
            try (URLClassLoader loader = new URLClassLoader(new URL[] {folder.toUri().toURL()}, ReadmeTest.class.getClassLoader())) {
                wrong += (int) loader.loadClass("Example").getMethod("run").invoke(null);
            }
        }
        Files.deleteIfExists(folder.resolve("Example.class"));
        Files.delete(source);
        Files.delete(folder);
    }

    private static void allCallsAreShown(List<String> example) {
        Set<String> shown = found("x\\.(\\w+)\\(", String.join("\n", example));
        for (var method : StripPage.class.getMethods()) {
            if (method.getDeclaringClass() == StripPage.class) {
                must(shown.contains(method.getName()), "the example shows " + method.getName());
            }
        }
    }

    private static void classes(String readme) {
        Set<String> told = new TreeSet<>();
        for (String row : found("\n\\| (`[^|]*) \\|", readme)) {
            told.addAll(found("`(\\w+)`", row));
        }
        Set<String> are = new TreeSet<>(Set.of("StripPage"));
        for (Class<?> inside : StripPage.class.getDeclaredClasses()) {
            are.add(inside.getSimpleName());
        }
        must(told.equals(are), "its classes are " + told + ", the program's are " + are);
    }

    /** A file with a main method that .ci/run's pattern does not meet would be a test that nobody runs. */
    private static void tests(String readme) throws IOException {
        List<Path> files;
        try (Stream<Path> all = Files.list(TESTS)) {
            files = all.collect(Collectors.toList());
        }
        Set<String> are = new TreeSet<>();
        for (Path file : files) {
            String name = file.getFileName().toString().replace(".java", "");
            are.add(name);
            boolean runs = Files.readString(file).contains("public static void main(String[] args)");
            must(runs == name.endsWith("Test"), "a test is run, if its name ends in Test: " + name);
        }
        Set<String> told = found("`(\\w+)`", readme.substring(readme.indexOf("\n## How to run its tests")));
        told.remove("Test");
        told.removeAll(Set.of("javac", "java"));
        must(told.equals(are), "its tests are " + told + ", the project's are " + are);
        Set<String> commands = found("\n    (\\S+)\n", readme.substring(readme.indexOf("\n## How to run its tests")));
        must(commands.equals(Set.of(".ci/run")), "the command is " + commands);
        must(Files.isExecutable(Path.of(".ci/run")), ".ci/run can be run");
    }

    public static void main(String[] args) throws Exception {
        String readme = Files.readString(Path.of("README.md"));
        List<String> example = example(readme);
        runExample(program(example));
        allCallsAreShown(example);
        classes(readme);
        tests(readme);
        System.out.println(wrong == 0 ? "README.md is so" : wrong + " things are not so");
        if (wrong != 0) {
            System.exit(1);
        }
    }
}
