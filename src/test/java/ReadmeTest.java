import java.io.IOException;
import java.lang.reflect.InvocationTargetException;
import java.lang.reflect.Method;
import java.lang.reflect.Modifier;
import java.net.URL;
import java.net.URLClassLoader;
import java.nio.file.Files;
import java.nio.file.Path;
import java.util.ArrayList;
import java.util.List;
import java.util.regex.Matcher;
import java.util.regex.Pattern;
import javax.tools.ToolProvider;

/** README.md: its example gives the answers that it tells, and every call is named. */
public final class ReadmeTest {
    private static final Path README = Path.of("README.md");
    private static final Pattern ANSWER = Pattern.compile("(x\\.\\w+\\(.*\\)); +// (-?\\d+)\\b.*");

    private static final List<String> calls = new ArrayList<>();
    private static final List<Integer> told = new ArrayList<>();

    private static List<String> example() throws IOException {
        List<String> lines = new ArrayList<>();
        boolean inside = false;
        for (String line : Files.readAllLines(README)) {
            if (line.startsWith("```")) {
                inside = line.equals("```java");
            } else if (inside) {
                lines.add(line);
            }
        }
        return lines;
    }

    /** The example as a class that answers what the lines with a number behind them answered. */
    private static String program(List<String> lines) {
        StringBuilder body = new StringBuilder();
        for (String line : lines) {
            Matcher answer = ANSWER.matcher(line);
            if (answer.matches()) {
                body.append("got[").append(calls.size()).append("] = ").append(answer.group(1)).append(";\n");
                calls.add(answer.group(1));
                told.add(Integer.valueOf(answer.group(2)));
            } else {
                body.append(line).append('\n');
            }
        }
        return "public final class Example { public static int[] run() {\nint[] got = new int["
            + calls.size() + "];\n" + body + "return got;\n} }\n";
    }

    private static void runIn(Path folder) throws IOException, ReflectiveOperationException {
        try (URLClassLoader loader = new URLClassLoader(new URL[] {folder.toUri().toURL()})) {
            int[] got = (int[]) loader.loadClass("Example").getMethod("run").invoke(null);
            for (int i = 0; i < got.length; i++) {
                Check.due("README.md: " + calls.get(i), got[i], told.get(i));
            }
        } catch (InvocationTargetException thrown) {
            Check.due("the example ends without " + thrown.getCause(), false, true);
        }
    }

    private static void exampleTellsTheTruth() throws IOException, ReflectiveOperationException {
        Path folder = Files.createTempDirectory("readme");
        Path source = folder.resolve("Example.java");
        Files.writeString(source, program(example()));
        Check.due("the example tells answers", calls.isEmpty(), false);
        int compiled = ToolProvider.getSystemJavaCompiler().run(null, null, null,
            "-cp", System.getProperty("java.class.path"), "-d", folder.toString(), source.toString());
        Check.due("the example compiles", compiled, 0);
        if (compiled == 0) {
            runIn(folder);
        }
        Files.deleteIfExists(folder.resolve("Example.class"));
        Files.delete(source);
        Files.delete(folder);
    }

    private static void everyCallIsNamed() throws IOException {
        String text = Files.readString(README);
        for (Method method : PppNegotiator.class.getDeclaredMethods()) {
            if (Modifier.isPublic(method.getModifiers())) {
                Check.due("README.md names " + method.getName(),
                    text.contains("`" + method.getName() + "("), true);
            }
        }
        Check.due("README.md tells how to run the tests", text.contains("    .ci/run\n"), true);
    }

    public static void main(String[] args) throws IOException, ReflectiveOperationException {
        exampleTellsTheTruth();
        everyCallIsNamed();
        Check.end();
    }
}
