import java.io.IOException;
import java.io.PrintWriter;
import java.io.StringWriter;
import java.lang.reflect.Method;
import java.lang.reflect.Modifier;
import java.nio.file.Files;
import java.nio.file.Path;
import java.util.List;
import java.util.TreeSet;
import java.util.regex.Matcher;
import java.util.regex.Pattern;
import java.util.spi.ToolProvider;

/**
 * The calls that README.md shows answer as README.md says: its Java blocks are made one program, which is compiled and
 * run. What else README.md names (the tests, the files, the command) is there.
 */
public final class ReadmeTest {
    private static final Pattern BLOCK = Pattern.compile("```java\n(.*?)```", Pattern.DOTALL);
    private static final Pattern CALL = Pattern.compile("(?:(?:int|long|boolean) (\\w+) = )?(x\\.(\\w+)\\(.*\\));(.*)");
    private static final Pattern ANSWER = Pattern.compile("\\s*// (-?\\d+|true|false)(?::.*)?");
    private static final Path TESTS = Path.of("src/test/java");

    private static int wrong;
    private static int shown;

    private ReadmeTest() {
    }

    private static void need(boolean good, String what) {
        if (!good) {
            wrong++;
            System.out.println("README.md: " + what);
        }
    }

    /** The program that was made calls this for each answer. */
    public static void due(String call, String got, String want) {
        shown++;
        need(got.equals(want), call + " answered " + got + ", it says " + want);
    }

    public static void main(String[] args) throws IOException, ReflectiveOperationException {
        String page = Files.readString(Path.of("README.md"));
        run(program(page));
        names(page);
        System.out.println(wrong == 0 ? "README.md: " + shown + " calls answer as it says" : wrong + " things are not as README.md says");
        if (wrong != 0 || shown == 0) {
            System.exit(1);
        }
    }

    private static String program(String page) {
        StringBuilder out = new StringBuilder("final class Shown { static void run() {\n");
        TreeSet<String> called = new TreeSet<>();
        Matcher blocks = BLOCK.matcher(page);
        while (blocks.find()) {
            for (String line : blocks.group(1).split("\n")) {
                Matcher call = CALL.matcher(line);
                if (!call.matches()) {
                    out.append(line).append('\n');
                    continue;
                }
                Matcher answer = ANSWER.matcher(call.group(4));
                need(answer.matches(), "no answer behind " + line);
                called.add(call.group(3));
                String value = call.group(1) == null ? call.group(2) : call.group(1);
                if (call.group(1) != null) {
                    out.append(line, 0, call.start(4)).append('\n');
                }
                out.append("ReadmeTest.due(\"").append(call.group(2)).append("\", String.valueOf(").append(value)
                        .append("), \"").append(answer.matches() ? answer.group(1) : "").append("\");\n");
            }
        }
        for (Method m : NineGraves.class.getDeclaredMethods()) {
            need(!Modifier.isPublic(m.getModifiers()) || called.contains(m.getName()), "it shows no call of " + m.getName());
        }
        return out.append("} }\n").toString();
    }

    /** Compiled beside the class, so that it is found where the class is. */
    private static void run(String program) throws IOException, ReflectiveOperationException {
        Path classes = Path.of("build/own");
        Path source = Path.of("build/readme/Shown.java");
        Files.createDirectories(source.getParent());
        Files.writeString(source, program);
        StringWriter said = new StringWriter();
        PrintWriter out = new PrintWriter(said);
        int code = ToolProvider.findFirst("javac").orElseThrow()
                .run(out, out, "-cp", classes.toString(), "-d", classes.toString(), source.toString());
        need(code == 0, "what it shows can't be compiled: " + said);
        if (code == 0) {
            Method run = Class.forName("Shown").getDeclaredMethod("run");
            run.setAccessible(true);
            run.invoke(null);
        }
    }

    private static void names(String page) throws IOException {
        for (String path : List.of("src/main/java/NineGraves.java", "../shared/DOC.md", "../shared/LANGUAGE.md", "../shared/tests", ".ci/run")) {
            need(page.contains(path) && Files.exists(Path.of(path)), "names " + path + ", which is there");
        }
        need(page.contains("```sh\n.ci/run\n```") && Files.isExecutable(Path.of(".ci/run")), "the command for the tests is .ci/run");
        Matcher named = Pattern.compile("`(\\w+(?:Test|Edges))`").matcher(page);
        while (named.find()) {
            need(Files.exists(TESTS.resolve(named.group(1) + ".java")), named.group(1) + " is there");
        }
        try (var files = Files.newDirectoryStream(TESTS, "*{Test,Edges}.java")) {
            for (Path file : files) {
                String name = file.getFileName().toString().replace(".java", "");
                need(page.contains("`" + name + "`"), "it says what " + name + " does");
            }
        }
    }
}
