import java.io.IOException;
import java.io.StringWriter;
import java.lang.reflect.Method;
import java.lang.reflect.Modifier;
import java.net.URL;
import java.net.URLClassLoader;
import java.nio.file.Files;
import java.nio.file.Path;
import java.util.Arrays;
import java.util.Set;
import java.util.TreeSet;
import java.util.regex.Matcher;
import java.util.regex.Pattern;
import java.util.stream.Stream;
import javax.tools.JavaCompiler;
import javax.tools.ToolProvider;

/** README.md is true: its examples answer as it says, and its list of tests has all tests and nothing else. */
public final class ReadmeTest {
    private static final Due DUE = new Due();
    private static final Pattern BLOCK = Pattern.compile("(?s)```java\n(.*?)```");
    private static final Pattern ANSWERED = Pattern.compile("(.*);\\s+// (-?\\d+|true|false)(?![\\w.]).*");
    private static int answers;

    public static void main(String[] args) throws Exception {
        String readme = Files.readString(Path.of("README.md"));
        examples(readme);
        everyMethod(readme);
        listOfTests(readme);
        DUE.end();
    }

    /** Called by the run that is made of the examples. */
    public static void answer(String call, long got, long due) {
        answers++;
        DUE.same(call, got, due);
    }

    public static void answer(String call, boolean got, boolean due) {
        answers++;
        DUE.same(call, got, due);
    }

    private static void examples(String readme) throws Exception {
        StringBuilder members = new StringBuilder();
        StringBuilder calls = new StringBuilder();
        int expected = 0;
        Matcher block = BLOCK.matcher(readme);
        while (block.find()) {
            if (block.group(1).startsWith("static ")) {
                members.append(block.group(1));
                continue;
            }
            for (String line : block.group(1).split("\n")) {
                Matcher answered = ANSWERED.matcher(line);
                boolean asks = answered.matches();
                expected += asks ? 1 : 0;
                calls.append(asks ? asking(answered.group(1), answered.group(2)) : line).append('\n');
            }
        }
        run("public final class ReadmeRun {\n" + members + "public static void main(String[] args) {\n" + calls + "}\n}\n");
        DUE.same("answers that the run of README.md asked for", answers, expected);
        DUE.same("README.md shows answers", expected > 50, true);
    }

    private static String asking(String call, String due) {
        return "ReadmeTest.answer(\"README.md: " + call.replace("\"", "\\\"") + "\", " + call + ", " + due + ");";
    }

    private static void run(String program) throws Exception {
        Path folder = Files.createTempDirectory("readme");
        Path file = Files.writeString(folder.resolve("ReadmeRun.java"), program);
        JavaCompiler compiler = ToolProvider.getSystemJavaCompiler();
        StringWriter said = new StringWriter();
        boolean compiled;
        try (var files = compiler.getStandardFileManager(null, null, null)) {
            var options = Arrays.asList("-d", folder.toString(), "-cp", System.getProperty("java.class.path"));
            compiled = compiler.getTask(said, files, null, options, null, files.getJavaFileObjects(file)).call();
        }
        DUE.same("the examples of README.md compile " + said, compiled, true);
        if (compiled) {
            try (URLClassLoader loader = new URLClassLoader(new URL[] {folder.toUri().toURL()}, ReadmeTest.class.getClassLoader())) {
                loader.loadClass("ReadmeRun").getMethod("main", String[].class).invoke(null, (Object) new String[0]);
            }
        }
        remove(folder);
    }

    private static void remove(Path folder) throws IOException {
        try (Stream<Path> files = Files.list(folder)) {
            for (Path file : files.toList()) {
                Files.delete(file);
            }
        }
        Files.delete(folder);
    }

    private static void everyMethod(String readme) {
        for (Method method : CurveShares.class.getDeclaredMethods()) {
            if (Modifier.isPublic(method.getModifiers())) {
                DUE.same("README.md shows " + method.getName(), readme.contains("x." + method.getName() + "("), true);
            }
        }
    }

    private static void listOfTests(String readme) throws IOException {
        Set<String> listed = new TreeSet<>();
        Matcher row = Pattern.compile("(?m)^\\| (\\w+Test) \\|").matcher(readme);
        while (row.find()) {
            listed.add(row.group(1));
        }
        Set<String> found = new TreeSet<>();
        try (Stream<Path> files = Files.list(Path.of("src/test/java"))) {
            for (Path file : files.toList()) {
                String name = file.getFileName().toString().replace(".java", "");
                if (name.endsWith("Test")) {
                    found.add(name);
                }
            }
        }
        DUE.same("README.md lists " + listed + " of " + found, listed.equals(found), true);
    }
}
