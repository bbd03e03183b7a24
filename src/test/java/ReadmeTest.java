import java.io.IOException;
import java.lang.reflect.Method;
import java.lang.reflect.Modifier;
import java.net.URL;
import java.net.URLClassLoader;
import java.nio.file.Files;
import java.nio.file.Path;
import java.util.ArrayList;
import java.util.Comparator;
import java.util.List;
import java.util.regex.Matcher;
import java.util.regex.Pattern;
import java.util.stream.Stream;
import javax.tools.ToolProvider;

/** What README.md shows of calls and answers is what the class answers; it shows every call, and names every test. */
public final class ReadmeTest extends Dues {
    private static final Path README = Path.of("README.md");
    private static final Path TESTS = Path.of("src/test/java");
    private static final String NEW_COIN = "CathedralCoin coin = new CathedralCoin();";
    // A statement, whether it names its answer, and the answer: the first word behind it.
    private static final Pattern SHOWN =
            Pattern.compile("((?:int|boolean) (\\w+) = )?(.+);\\s*// (-?\\d+|true|false)(?![\\w]).*");
    // A row of the table of calls that can't be: the call and what it answers then.
    private static final Pattern REFUSED = Pattern.compile("\\| `(\\w+)` \\|.*\\| `(-?\\d+|true|false|never)` \\|");

    private static final List<String> members = new ArrayList<>();
    private static final List<String> statements = new ArrayList<>();
    private static final List<String> calls = new ArrayList<>();
    private static final List<String> answers = new ArrayList<>();

    public static void main(String[] args) throws Exception {
        List<String> lines = Files.readAllLines(README);
        takeProgram(lines);
        dueAnswers();
        dueEveryCall();
        dueRefusals(lines);
        dueEveryTest();
        finish();
    }

    /** The java blocks, one behind the other: those that begin with static are members, the others statements. */
    private static void takeProgram(List<String> lines) {
        boolean isJava = false;
        boolean isMember = false;
        for (int i = 0; i < lines.size(); i++) {
            String line = lines.get(i);
            if (line.startsWith("```")) {
                isJava = line.equals("```java");
                isMember = isJava && lines.get(i + 1).startsWith("static ");
            } else if (isJava && isMember) {
                members.add(line);
            } else if (isJava && line.equals(NEW_COIN)) {
                statements.add(line);
            } else if (isJava && !line.isBlank()) {
                takeStatement(i + 1, line);
            }
        }
    }

    private static void takeStatement(int number, String line) {
        sentence("README.md, line " + number);
        Matcher shown = SHOWN.matcher(line);
        boolean hasAnswer = shown.matches();
        due(line + " tells its answer", true, hasAnswer);
        if (hasAnswer) {
            String value = shown.group(3);
            if (shown.group(1) != null) {
                statements.add(shown.group(1) + value + ";");
                value = shown.group(2);
            }
            statements.add("answers.add(String.valueOf(" + value + "));");
            calls.add("line " + number + ", " + shown.group(3));
            answers.add(shown.group(4));
        }
    }

    private static void dueAnswers() throws Exception {
        sentence("README.md");
        List<?> got = run();
        due("its calls", calls.size(), got.size());
        for (int i = 0; i < calls.size() && i < got.size(); i++) {
            due(calls.get(i), answers.get(i), String.valueOf(got.get(i)));
        }
        due("it is used for 512 calls at most", true, calls.size() <= 512);
    }

    /** Compiles the program together with the class that is tested, and runs it. */
    private static List<?> run() throws Exception {
        Path made = Files.createTempDirectory("readme");
        try {
            Path source = made.resolve("Readme.java");
            Files.writeString(source, "public final class Readme {\n" + String.join("\n", members)
                    + "\npublic static java.util.List<String> run() {\n"
                    + "java.util.List<String> answers = new java.util.ArrayList<>();\n"
                    + String.join("\n", statements) + "\nreturn answers;\n}\n}\n");
            int failed = ToolProvider.getSystemJavaCompiler().run(null, null, null, "-cp",
                    System.getProperty("java.class.path"), "-d", made.toString(), source.toString());
            due("what javac says of its program", 0, failed);
            if (failed != 0) {
                return List.of();
            }
            URL[] where = {made.toUri().toURL()};
            try (URLClassLoader loader = new URLClassLoader(where, ReadmeTest.class.getClassLoader())) {
                return (List<?>) loader.loadClass("Readme").getMethod("run").invoke(null);
            }
        } finally {
            remove(made);
        }
    }

    private static void remove(Path made) throws IOException {
        try (Stream<Path> files = Files.walk(made)) {
            for (Path file : files.sorted(Comparator.reverseOrder()).toList()) {
                Files.delete(file);
            }
        }
    }

    private static void dueEveryCall() {
        sentence("README.md says how the class is used");
        String program = String.join("\n", statements);
        due("it makes one", true, program.contains(NEW_COIN));
        for (Method method : CathedralCoin.class.getDeclaredMethods()) {
            if (Modifier.isPublic(method.getModifiers())) {
                due("it shows " + method.getName(), true, program.contains("coin." + method.getName() + "("));
            }
        }
    }

    /** Each call of the face has a row that tells what it answers when it can't be. */
    private static void dueRefusals(List<String> lines) throws Exception {
        sentence("README.md, calls that can't be");
        List<String> rows = new ArrayList<>();
        for (String line : lines) {
            Matcher row = REFUSED.matcher(line);
            if (row.matches()) {
                rows.add(row.group(1));
                due(row.group(1), row.group(2), refused(row.group(1)));
            }
        }
        for (Method method : CathedralCoin.class.getDeclaredMethods()) {
            if (Modifier.isPublic(method.getModifiers())) {
                due("it has a row of " + method.getName(), true, rows.contains(method.getName()));
            }
        }
    }

    /** What a call answers with numbers that are no such numbers, or where it can't be. */
    private static String refused(String name) throws Exception {
        CathedralCoin coin = new CathedralCoin();
        if (name.equals("image") || name.equals("back")) {
            return "never";
        }
        for (int i = 0; i < 15; i++) {
            coin.feed(0, 0, 0, 0, 0);
        }
        for (Method method : CathedralCoin.class.getDeclaredMethods()) {
            if (Modifier.isPublic(method.getModifiers()) && method.getName().equals(name)) {
                Object[] given = new Object[method.getParameterCount()];
                for (int i = 0; i < given.length; i++) {
                    given[i] = method.getParameterTypes()[i] == int.class ? (Object) LOW : (Object) true;
                }
                return String.valueOf(method.invoke(coin, given));
            }
        }
        return "no call of the class";
    }

    private static void dueEveryTest() throws IOException {
        sentence("README.md says how its tests are run");
        String readme = Files.readString(README);
        due("it tells .ci/run", true, readme.contains("\n    .ci/run\n"));
        try (Stream<Path> tests = Files.list(TESTS)) {
            for (Path test : tests.toList()) {
                String name = test.getFileName().toString().replace(".java", "");
                due("it names " + name, true, readme.contains("`" + name + "`"));
            }
        }
    }
}
