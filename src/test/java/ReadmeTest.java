import java.io.IOException;
import java.lang.reflect.Method;
import java.lang.reflect.Modifier;
import java.net.URL;
import java.net.URLClassLoader;
import java.nio.file.Files;
import java.nio.file.Path;
import java.util.Comparator;
import java.util.List;
import java.util.regex.Matcher;
import java.util.regex.Pattern;
import java.util.stream.Stream;
import javax.tools.ToolProvider;

/** README.md holds: its example is compiled and run, each call of the face stands in it; run from the project's directory. */
public final class ReadmeTest {
    private static final Pattern BLOCK = Pattern.compile("(?s)```java\n(.*?)```");
    private static final Pattern ANSWER = Pattern.compile("(?m)^(vote\\.[^;]*);\\s*// (-?\\d+):.*$");

    private static int wrong = 0;

    public static void main(String[] args) throws IOException, ReflectiveOperationException {
        String page = Files.readString(Path.of("README.md"));
        face(page);
        example(page);
        System.out.println(wrong == 0 ? "ReadmeTest: README.md holds" : "ReadmeTest: " + wrong + " wrong");
        if (wrong != 0) {
            System.exit(1);
        }
    }

    private static void check(boolean holds, String what) {
        if (!holds) {
            wrong++;
            System.out.println(what);
        }
    }

    private static void face(String page) {
        for (Method method : LeavingVote.class.getDeclaredMethods()) {
            if (Modifier.isPublic(method.getModifiers())) {
                String row = "| `" + method.getName() + "(" + ", \\w+".repeat(method.getParameterCount()).replaceFirst(", ", "") + ")` | ";
                String pattern = row.replace("|", "\\|").replace("(", "\\(").replace(")", "\\)");
                check(Pattern.compile(pattern).matcher(page).find(), "no row for " + method);
            }
        }
        check(page.contains("`BAD` (" + LeavingVote.BAD + ")"), "BAD");
        check(page.contains("`NO` (" + LeavingVote.NO + ")"), "NO");
        check(page.contains("`FULL` (" + LeavingVote.FULL + ")"), "FULL");
        check(page.contains("`NONE` (" + LeavingVote.NONE + ")"), "NONE");
        check(page.contains("\n    .ci/run\n") && Files.isExecutable(Path.of(".ci/run")), "the command for all tests");
    }

    /** Each line of the example that ends in "// number: why" becomes a check of that answer. */
    private static void example(String page) throws IOException, ReflectiveOperationException {
        Matcher block = BLOCK.matcher(page);
        check(block.find(), "no example");
        String body = block.group(1);
        check(ANSWER.matcher(body).results().count() >= 10, "an example with answers");
        String checked = ANSWER.matcher(body).replaceAll("wrong += is(\"$1\", $1, $2);");
        String source = "public final class Example {\n"
            + "static int is(String call, int got, int want) {\n"
            + "if (got != want) System.out.println(call + \" answered \" + got + \", README.md says \" + want);\n"
            + "return got == want ? 0 : 1;\n}\n"
            + "public static int run() {\nint wrong = 0;\n" + checked + "return wrong;\n}\n}\n";
        Path directory = Files.createTempDirectory("readme");
        try {
            wrong += answersOf(directory, source);
        } finally {
            remove(directory);
        }
    }

    private static int answersOf(Path directory, String source) throws IOException, ReflectiveOperationException {
        Path file = Files.writeString(directory.resolve("Example.java"), source);
        List<String> options = List.of("-cp", System.getProperty("java.class.path"), "-d", directory.toString(), file.toString());
        if (ToolProvider.getSystemJavaCompiler().run(null, null, null, options.toArray(new String[0])) != 0) {
            System.out.println("the example does not compile");
            return 1;
        }
        try (URLClassLoader loader = new URLClassLoader(new URL[] {directory.toUri().toURL()}, ReadmeTest.class.getClassLoader())) {
            return (Integer) loader.loadClass("Example").getMethod("run").invoke(null);
        }
    }

    private static void remove(Path directory) throws IOException {
        try (Stream<Path> all = Files.walk(directory)) {
            for (Path path : all.sorted(Comparator.reverseOrder()).toList()) {
                Files.delete(path);
            }
        }
    }
}
