import java.io.IOException;
import java.lang.reflect.Method;
import java.lang.reflect.Modifier;
import java.net.URL;
import java.net.URLClassLoader;
import java.nio.file.DirectoryStream;
import java.nio.file.Files;
import java.nio.file.Path;
import java.util.regex.Matcher;
import java.util.regex.Pattern;
import javax.tools.JavaCompiler;
import javax.tools.ToolProvider;

/** README.md says what is so: its calls are run as they stand there, each against the answer behind it. */
public final class ReadmeTest {
    private static final Pattern BLOCK = Pattern.compile("```java\\n(.*?)```", Pattern.DOTALL);
    private static final Pattern ANSWERED =
        Pattern.compile("(?<call>(x\\.\\w+|feed)\\(.*\\)); +// (?<answer>-?\\d+|true|false|NONE|HIDDEN|throws NoSuchElementException)(:.*)?");
    private static final String NAME = "ReadmeCalls";
    private static int calls = 0;

    private ReadmeTest() {
    }

    // Public, as the README's calls come from another loader, to which Check is hidden.
    public static void due(String what, long got, long want) {
        Check.due(what, got, want);
    }

    public static void due(String what, boolean got, boolean want) {
        Check.due(what, got, want);
    }

    /** A block that begins with static is a method, each other one goes on where the one ahead of it ended. */
    private static String programOf(String readme) {
        StringBuilder methods = new StringBuilder();
        StringBuilder steps = new StringBuilder();
        Matcher block = BLOCK.matcher(readme);
        while (block.find()) {
            if (block.group(1).startsWith("static ")) {
                methods.append(block.group(1));
            } else {
                for (String line : block.group(1).split("\n")) steps.append(stepOf(line)).append('\n');
            }
        }
        return "public final class " + NAME + " {\n" + methods + "public static void main(String[] args) {\n" + steps + "}\n}\n";
    }

    private static String stepOf(String line) {
        Matcher answered = ANSWERED.matcher(line);
        if (!answered.matches()) {
            Check.due("README.md, no answer behind: " + line, line.matches("\\s*|SlotBuses x = new SlotBuses\\(\\);"), true);
            return line;
        }
        calls++;
        String call = answered.group("call");
        String answer = answered.group("answer");
        String name = "\"README.md, " + call.replace("\\", "\\\\").replace("\"", "\\\"") + "\"";
        if (answer.startsWith("throws ")) {
            return "{ boolean thrown = false; try { " + call + "; } catch (java.util." + answer.substring(7)
                + " e) { thrown = true; } ReadmeTest.due(" + name + ", thrown, true); }";
        }
        String want = answer.equals("NONE") || answer.equals("HIDDEN") ? "SlotBuses." + answer : answer;
        return "ReadmeTest.due(" + name + ", " + call + ", " + want + ");";
    }

    private static void run(String program) throws Exception {
        Path place = Files.createTempDirectory(NAME);
        Path source = place.resolve(NAME + ".java");
        Files.writeString(source, program);
        JavaCompiler compiler = ToolProvider.getSystemJavaCompiler();
        int failed = compiler.run(null, null, null, "-proc:none", "-cp", System.getProperty("java.class.path"), "-d", place.toString(), source.toString());
        Check.due("README.md, its calls compile", failed == 0, true);
        if (failed == 0) {
            try (URLClassLoader loader = new URLClassLoader(new URL[] {place.toUri().toURL()}, ReadmeTest.class.getClassLoader())) {
                loader.loadClass(NAME).getMethod("main", String[].class).invoke(null, (Object) new String[0]);
            }
        }
        Files.deleteIfExists(place.resolve(NAME + ".class"));
        Files.deleteIfExists(source);
        Files.deleteIfExists(place);
    }

    private static void namesEveryCall(String readme) {
        String table = readme.substring(Math.max(0, readme.indexOf("### All calls")));
        for (Method m : SlotBuses.class.getDeclaredMethods()) {
            if (Modifier.isPublic(m.getModifiers())) {
                Check.due("README.md names " + m.getName(), table.contains("`" + m.getName() + "`"), true);
            }
        }
    }

    private static void namesEveryTest(String readme, Path project) throws IOException {
        try (DirectoryStream<Path> tests = Files.newDirectoryStream(project.resolve("src/test/java"), "*Test.java")) {
            for (Path test : tests) {
                String name = test.getFileName().toString().replace(".java", "");
                Check.due("README.md names " + name, readme.contains("| `" + name + "` |"), true);
            }
        }
    }

    public static void main(String[] args) throws Exception {
        Path project = Path.of(args.length > 0 ? args[0] : ".");
        String readme = Files.readString(project.resolve("README.md"));
        run(programOf(readme));
        Check.due("README.md has calls", calls > 30, true);
        namesEveryCall(readme);
        namesEveryTest(readme, project);
        Check.due("README.md says how to run the tests", readme.contains("bash .ci/run"), true);
        Check.finish();
    }
}
