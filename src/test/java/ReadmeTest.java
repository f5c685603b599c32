import java.io.File;
import java.net.URL;
import java.net.URLClassLoader;
import java.nio.file.Files;
import java.nio.file.Path;
import java.util.regex.Matcher;
import java.util.regex.Pattern;
import javax.tools.JavaCompiler;
import javax.tools.ToolProvider;

/** README.md: its example answers what it says, and each test is named in it. */
public final class ReadmeTest {
    /** A call of the example with what is due: "store.call(..);  // due: words". */
    private static final Pattern CALL =
            Pattern.compile("(store\\.\\w+\\([^;]*\\));\\s*// (NONE|-?\\d+|throws \\w+): .+");
    /** The call in the loop, whose answers the example does not tell. */
    private static final String UNTOLD = "store.append(c);";
    private static final int FEWEST_CALLS = 20;

    private static int calls = 0;
    private static int checks = 0;
    private static int wrong = 0;

    /** A call of the example. */
    public interface Call {
        int answer();
    }

    public static void main(String[] args) throws Exception {
        String readme = Files.readString(Path.of("README.md"));
        run(programOf(exampleOf(readme)));
        expect(calls >= FEWEST_CALLS, "the example has only " + calls + " calls with answers");
        namesEachTest(readme);
        System.out.println("ReadmeTest: " + calls + " calls, " + checks + " checks, " + wrong + " wrong");
        if (wrong != 0) {
            System.exit(1);
        }
    }

    private static void expect(boolean good, String fault) {
        checks++;
        if (!good) {
            wrong++;
            System.out.println(fault);
        }
    }

    /** Called by the example's program: what the call answers, against what README.md says. */
    public static void due(String call, String due, Call body) {
        calls++;
        String got;
        try {
            int answer = body.answer();
            got = answer == NightTrains.NONE ? "NONE" : String.valueOf(answer);
        } catch (RuntimeException e) {
            got = "throws " + e.getClass().getSimpleName();
        }
        expect(got.equals(due), call + " answered " + got + ", README.md says " + due);
    }

    private static String exampleOf(String readme) {
        String opening = "```java\n";
        int start = readme.indexOf(opening);
        int end = readme.indexOf("```\n", start + opening.length());
        return start < 0 || end < 0 ? "" : readme.substring(start + opening.length(), end);
    }

    private static String programOf(String example) {
        StringBuilder b = new StringBuilder("public final class ReadmeExample {\npublic static void run() {\n");
        for (String line : example.split("\n")) {
            Matcher call = CALL.matcher(line.trim());
            if (call.matches()) {
                b.append(String.format("ReadmeTest.due(\"%s\", \"%s\", () -> %s);",
                        call.group(1), call.group(2), call.group(1)));
            } else {
                boolean untold = line.contains("store.") && !line.trim().equals(UNTOLD);
                expect(!untold, "README.md does not say what is due: " + line);
                b.append(line);
            }
            b.append('\n');
        }
        return b.append("}\n}\n").toString();
    }

    private static void run(String program) throws Exception {
        Path folder = Files.createTempDirectory("readme");
        Path source = folder.resolve("ReadmeExample.java");
        Files.writeString(source, program);
        JavaCompiler javac = ToolProvider.getSystemJavaCompiler();
        int ended = javac.run(null, null, null, "-cp", System.getProperty("java.class.path"),
                "-d", folder.toString(), source.toString());
        expect(ended == 0, "the example does not compile");
        if (ended == 0) {
            try (URLClassLoader loader = new URLClassLoader(new URL[] {folder.toUri().toURL()})) {
                loader.loadClass("ReadmeExample").getMethod("run").invoke(null);
            }
        }
        for (File file : folder.toFile().listFiles()) {
            Files.delete(file.toPath());
        }
        Files.delete(folder);
    }

    private static void namesEachTest(String readme) {
        for (File file : new File("src/test/java").listFiles()) {
            String name = file.getName().replace(".java", "");
            expect(readme.contains("`" + name + "`"), "README.md does not name " + name);
        }
        expect(readme.contains("\nbash .ci/run\n"), "README.md does not say how to run the tests");
    }
}
