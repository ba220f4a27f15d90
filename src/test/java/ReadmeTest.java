import java.io.IOException;
import java.net.URL;
import java.net.URLClassLoader;
import java.nio.file.Files;
import java.nio.file.Path;
import java.util.List;
import java.util.regex.Matcher;
import java.util.regex.Pattern;
import javax.tools.ToolProvider;

/** The examples of README.md: each is compiled, and its calls answer what stands behind them. */
public final class ReadmeTest {
    private static final Pattern EXAMPLE = Pattern.compile("(?s)```java\n(.*?)```");
    private static final Pattern CALL = Pattern.compile("(line\\.\\w+\\(.*\\)); +// (-?\\d+): .*");
    private static final String HEAD = "public final class Examples {\n"
            + "public static int checks = 0;\npublic static int wrong = 0;\n"
            + "private static void due(String call, long got, long want) {\n"
            + "checks++;\nif (got != want) {\nwrong++;\n"
            + "System.out.println(call + \" answered \" + got + \", due is \" + want);\n}\n}\n";

    public static void main(String[] args) throws IOException, ReflectiveOperationException {
        StringBuilder file = new StringBuilder(HEAD);
        Matcher examples = EXAMPLE.matcher(Files.readString(Path.of("README.md")));
        int number = 0;
        StringBuilder calls = new StringBuilder();
        while (examples.find()) {
            file.append("private static void example").append(number).append("() {\n");
            examples.group(1).lines().forEach(line -> file.append(checked(line)).append('\n'));
            file.append("}\n");
            calls.append("example").append(number).append("();\n");
            number++;
        }
        file.append("public static void run() {\n").append(calls).append("}\n}\n");
        run(file.toString());
    }

    private static String checked(String line) {
        Matcher call = CALL.matcher(line);
        return call.matches() ? "due(\"" + call.group(1) + "\", " + call.group(1) + ", " + call.group(2) + ");" : line;
    }

    private static void run(String text) throws IOException, ReflectiveOperationException {
        Path home = Files.createTempDirectory("readme");
        Path file = home.resolve("Examples.java");
        Path made = home.resolve("Examples.class");
        Files.writeString(file, text);
        int failed = ToolProvider.getSystemJavaCompiler().run(null, null, null, "-proc:none", "-classpath",
                System.getProperty("java.class.path"), "-d", home.toString(), file.toString());
        int checks = 0;
        int wrong = failed == 0 ? 0 : 1;
        if (failed == 0) {
            try (URLClassLoader loader = new URLClassLoader(new URL[] {home.toUri().toURL()})) {
                Class<?> examples = loader.loadClass("Examples");
                examples.getMethod("run").invoke(null);
                checks = examples.getField("checks").getInt(null);
                wrong = examples.getField("wrong").getInt(null);
            }
        }
        for (Path path : List.of(file, made, home)) {
            Files.deleteIfExists(path);
        }
        System.out.println("ReadmeTest: " + checks + " answers, " + wrong + " wrong");
        if (wrong != 0 || checks == 0) {
            System.exit(1);
        }
    }
}
