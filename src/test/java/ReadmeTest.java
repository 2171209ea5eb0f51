import java.io.ByteArrayOutputStream;
import java.io.IOException;
import java.lang.reflect.Method;
import java.lang.reflect.Modifier;
import java.net.URL;
import java.net.URLClassLoader;
import java.nio.file.Files;
import java.nio.file.Path;
import java.util.ArrayList;
import java.util.List;
import java.util.function.BiConsumer;
import java.util.regex.Matcher;
import java.util.regex.Pattern;
import javax.tools.JavaCompiler;
import javax.tools.ToolProvider;

/** What README.md says of the calls: its example is compiled and run as it stands there. */
public final class ReadmeTest {
    private static final Path PAGE = Path.of("README.md");
    private static final Pattern EXAMPLE = Pattern.compile("(?s)```java\n(.*?)```");
    private static final Pattern CALL = Pattern.compile(
            "(?:int (\\w+) = )?(k\\.\\w+\\(.*\\));\\s+// (-?\\d+|true|false|NONE)");
    private static final Pattern ROW = Pattern.compile("(?m)^\\| `(\\w+)\\(([^)]*)\\)` \\|");

    public static void main(String[] args) throws Exception {
        Due due = new Due("ReadmeTest");
        String page = Files.readString(PAGE);
        example(due, page);
        table(due, page);
        how(due, page);
        due.end();
    }

    private static void example(Due due, String page) throws Exception {
        Matcher found = EXAMPLE.matcher(page);
        due.is("has an example", true, found.find());
        List<String> body = new ArrayList<>();
        int calls = 0;
        for (String line : found.group(1).split("\n")) {
            Matcher call = CALL.matcher(line);
            boolean told = call.matches();
            boolean other = line.isBlank() || line.startsWith("// ")
                    || line.equals("SugarKitchen k = new SugarKitchen();");
            due.is("tells the answer: " + line, !other, told);
            body.add(told ? checked(call) : line);
            calls += told ? 1 : 0;
        }
        Answers answers = new Answers();
        run(String.join("\n", body), answers);
        for (int i = 0; i < answers.calls.size(); i++) {
            String[] both = answers.both.get(i);
            due.is(answers.calls.get(i) + " answered " + both[1] + ", README says " + both[0], true,
                    both[0].equals(both[1]));
        }
        due.is("calls that were run", calls, answers.calls.size());
    }

    /** The call of the page as it stands there, its answer handed on with the one that is due. */
    private static String checked(Matcher call) {
        String due = call.group(3).equals("NONE") ? "-1" : call.group(3);
        boolean kept = call.group(1) != null;
        String answer = kept ? call.group(1) : call.group(2);
        String ahead = kept ? "int " + answer + " = " + call.group(2) + "; " : "";
        return ahead + "answers.accept(\"" + call.group(2) + "\", new String[] {\"" + due
                + "\", String.valueOf(" + answer + ")});";
    }

    private static void run(String body, Answers answers) throws Exception {
        Path made = Files.createTempDirectory("readme");
        Path source = made.resolve("Example.java");
        Files.writeString(source, "public final class Example {\n"
                + "public static void run(java.util.function.BiConsumer<String, String[]> answers) {\n"
                + body + "\n}\n}\n");
        JavaCompiler compiler = ToolProvider.getSystemJavaCompiler();
        ByteArrayOutputStream said = new ByteArrayOutputStream();
        int code = compiler.run(null, said, said, "-d", made.toString(), "-cp",
                System.getProperty("java.class.path"), source.toString());
        if (code != 0) {
            System.out.println("ReadmeTest: the example can't be compiled:\n" + said);
            System.exit(1);
        }
        try (URLClassLoader loader = new URLClassLoader(new URL[] {made.toUri().toURL()})) {
            Method run = loader.loadClass("Example").getMethod("run", BiConsumer.class);
            run.invoke(null, answers);
        }
        remove(made);
    }

    private static void remove(Path made) throws IOException {
        Files.deleteIfExists(made.resolve("Example.java"));
        Files.deleteIfExists(made.resolve("Example.class"));
        Files.deleteIfExists(made);
    }

    private static void table(Due due, String page) {
        List<String> named = new ArrayList<>();
        Matcher row = ROW.matcher(page);
        while (row.find()) {
            named.add(row.group(1) + " " + row.group(2).split(",").length);
        }
        int calls = 0;
        for (Method m : SugarKitchen.class.getDeclaredMethods()) {
            if (Modifier.isPublic(m.getModifiers())) {
                calls++;
                due.is("names " + m, true,
                        named.contains(m.getName() + " " + m.getParameterCount()));
            }
        }
        due.is("rows of the table", calls, named.size());
    }

    /** How the tests are run, and each of them by its name. */
    private static void how(Due due, String page) throws IOException {
        due.is("says .ci/run", true, page.contains("```sh\n.ci/run\n```"));
        try (var files = Files.list(Path.of("src/test/java"))) {
            for (Path file : files.toList()) {
                String name = file.getFileName().toString().replace(".java", "");
                if (name.endsWith("Test")) {
                    due.is("names " + name, true, page.contains("| `" + name + "` |"));
                }
            }
        }
    }

    private static final class Answers implements BiConsumer<String, String[]> {
        private final List<String> calls = new ArrayList<>();
        private final List<String[]> both = new ArrayList<>();

        @Override
        public void accept(String call, String[] dueAndGot) {
            calls.add(call);
            both.add(dueAndGot);
        }
    }
}
