import java.io.IOException;
import java.lang.invoke.MethodHandles;
import java.nio.file.Files;
import java.nio.file.Path;
import java.util.ArrayList;
import java.util.List;
import java.util.regex.Matcher;
import java.util.regex.Pattern;
import javax.tools.ToolProvider;

/**
 * README.md's examples are compiled and run: a comment behind a call tells its answer, up to a colon.
 * Run from the project's own directory, as .ci/run does.
 */
public final class ReadmeTest {
    private static final Pattern TOLD = Pattern.compile("(x\\.\\w+\\(.*\\)); +// ([^:]+)(:.*)?");
    private static final String CONSTANTS = "int NONE = TrustResolver.NONE, FULL = TrustResolver.FULL,"
            + " TRUE = TrustResolver.TRUE, OPEN = TrustResolver.OPEN,"
            + " FALSE = TrustResolver.FALSE, UNKNOWN = TrustResolver.UNKNOWN;";

    private static int told = 0;

    public static void main(String[] args) throws IOException, ReflectiveOperationException {
        List<List<String>> examples = examples(Files.readAllLines(Path.of("README.md")));
        Due.is("README.md has an example", examples.isEmpty(), false);
        for (int k = 0; k < examples.size(); k++) {
            run("ReadmeExample" + k, examples.get(k));
        }
        Due.is("README.md tells answers", told >= 20, true);
        Due.end();
    }

    /** The lines of each part between a line with three ticks and 'java' and one with three ticks alone. */
    private static List<List<String>> examples(List<String> lines) {
        List<List<String>> all = new ArrayList<>();
        boolean inside = false;
        for (String line : lines) {
            if (line.equals("```java")) {
                inside = true;
                all.add(new ArrayList<>());
            } else if (line.equals("```")) {
                inside = false;
            } else if (inside) {
                all.get(all.size() - 1).add(line);
            }
        }
        return all;
    }

    private static void run(String name, List<String> example) throws IOException, ReflectiveOperationException {
        StringBuilder source = new StringBuilder("final class " + name + " { static void run() { " + CONSTANTS + "\n");
        for (String line : example) {
            source.append(withCheck(line)).append('\n');
        }
        Path folder = Files.createTempDirectory("readme");
        Path java = folder.resolve(name + ".java");
        Path compiled = folder.resolve(name + ".class");
        try {
            Files.writeString(java, source.append("} }\n"));
            String path = System.getProperty("java.class.path");
            int failed = ToolProvider.getSystemJavaCompiler()
                    .run(null, null, null, "-cp", path, "-d", folder.toString(), java.toString());
            Due.is(name + " compiles", failed, 0);
            if (failed == 0) {
                // Defined beside this class, so that it may use what the tests share.
                Class<?> made = MethodHandles.lookup().defineClass(Files.readAllBytes(compiled));
                made.getDeclaredMethod("run").invoke(null);
            }
        } finally {
            Files.deleteIfExists(compiled);
            Files.deleteIfExists(java);
            Files.deleteIfExists(folder);
        }
    }

    /** Every call of the object must tell its answer: a call without one would not be looked at. */
    private static String withCheck(String line) {
        Matcher call = TOLD.matcher(line);
        if (!call.matches()) {
            Due.is("README.md: no answer is told: " + line, line.startsWith("x."), false);
            return line;
        }
        told++;
        return "Due.is(\"README.md: " + call.group(1) + "\", " + call.group(1) + ", " + call.group(2) + ");";
    }
}
