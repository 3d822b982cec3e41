import java.io.IOException;
import java.lang.reflect.Method;
import java.lang.reflect.Modifier;
import java.net.URL;
import java.net.URLClassLoader;
import java.nio.file.DirectoryStream;
import java.nio.file.Files;
import java.nio.file.Path;
import java.util.ArrayList;
import java.util.List;
import java.util.Set;
import java.util.TreeSet;
import java.util.regex.Matcher;
import java.util.regex.Pattern;
import javax.tools.JavaCompiler;
import javax.tools.ToolProvider;

/** What README.md shows: a class is written of its calls, compiled and run; it is run from the project's folder. */
public final class ReadmeTest {
    private static final Check CHECK = new Check("ReadmeTest");
    private static final Path FOLDER = Path.of("build/readme");
    private static final String BEGIN = "LeafOrder x = new LeafOrder();";
    private static final Pattern CALL =
        Pattern.compile("x\\.(\\w+)(\\([^;]*\\)); +// (-?\\d+|LeafOrder\\.[A-Z]+)(: \\S.*)?");

    private static final List<String> LINES = new ArrayList<>();
    private static final List<String> CALLS = new ArrayList<>();
    private static final Set<String> NAMES = new TreeSet<>();

    public static void main(String[] args) throws IOException, ReflectiveOperationException {
        String readme = Files.readString(Path.of("README.md"));
        readLines(readme);
        everyCallIsShown();
        classesAreNamed(readme);
        testsAreNamed(readme);
        if (compiled()) {
            compareAnswers();
        }
        CHECK.finish();
    }

    private static void readLines(String readme) {
        Matcher block = Pattern.compile("(?ms)^```java\n(.*?)^```$").matcher(readme);
        CHECK.holds("every block is read", !block.replaceAll("").contains("```"));
        block.reset();
        while (block.find()) {
            for (String line : block.group(1).split("\n")) {
                if (!line.isBlank()) {
                    LINES.add(line);
                }
            }
        }
        CHECK.holds("there are calls", LINES.size() > 1);
        for (String line : LINES) {
            Matcher call = CALL.matcher(line);
            if (call.matches()) {
                NAMES.add(call.group(1));
                CALLS.add(call.group(1) + call.group(2));
            } else {
                CHECK.alike("a line that tells no answer", line, BEGIN);
            }
        }
    }

    private static void everyCallIsShown() {
        for (Method method : LeafOrder.class.getDeclaredMethods()) {
            if (Modifier.isPublic(method.getModifiers())) {
                CHECK.holds(method.getName() + "() is shown", NAMES.contains(method.getName()));
            }
        }
    }

    private static void classesAreNamed(String readme) {
        for (Class<?> inside : LeafOrder.class.getDeclaredClasses()) {
            String name = inside.getSimpleName();
            CHECK.holds("class " + name + " is named", readme.contains("| `" + name + "` |"));
        }
    }

    private static void testsAreNamed(String readme) throws IOException {
        Set<String> there = new TreeSet<>();
        try (DirectoryStream<Path> files = Files.newDirectoryStream(Path.of("src/test/java"), "*Test.java")) {
            for (Path file : files) {
                there.add(file.getFileName().toString().replace(".java", ""));
            }
        }
        Set<String> named = new TreeSet<>();
        Matcher name = Pattern.compile("`(\\w+Test)`").matcher(readme);
        while (name.find()) {
            named.add(name.group(1));
        }
        CHECK.alike("tests", named.toString(), there.toString());
    }

    /** The lines stand there twice: as a reader would take them over, and each with its answer beside it. */
    private static String source() {
        List<String> compared = new ArrayList<>();
        for (String line : LINES) {
            Matcher call = CALL.matcher(line);
            compared.add(call.matches() ? "all.add(new long[] {x." + call.group(1) + call.group(2) + ", "
                + literal(call.group(3)) + "});" : line);
        }
        return "public final class ReadmeRun {\n"
            + "public static void asWritten() {\n" + String.join("\n", LINES) + "\n}\n"
            + "public static java.util.List<long[]> answers() {\n"
            + "java.util.List<long[]> all = new java.util.ArrayList<>();\n"
            + String.join("\n", compared) + "\nreturn all;\n}\n}\n";
    }

    private static String literal(String answer) {
        return answer.startsWith("LeafOrder.") ? answer : answer + "L";
    }

    private static boolean compiled() throws IOException {
        Files.createDirectories(FOLDER);
        Path file = FOLDER.resolve("ReadmeRun.java");
        Files.writeString(file, source());
        JavaCompiler compiler = ToolProvider.getSystemJavaCompiler();
        boolean is = compiler != null && compiler.run(null, null, null, "-Xlint:all", "-Werror",
            "-cp", System.getProperty("java.class.path"), "-d", FOLDER.toString(), file.toString()) == 0;
        CHECK.holds("the calls compile", is);
        return is;
    }

    private static void compareAnswers() throws IOException, ReflectiveOperationException {
        URL[] folder = {FOLDER.toUri().toURL()};
        try (URLClassLoader loader = new URLClassLoader(folder, ReadmeTest.class.getClassLoader())) {
            List<?> all = (List<?>) loader.loadClass("ReadmeRun").getMethod("answers").invoke(null);
            CHECK.due("how many calls", all.size(), CALLS.size());
            for (int i = 0; i < all.size(); i++) {
                long[] pair = (long[]) all.get(i);
                CHECK.due(CALLS.get(i), pair[0], pair[1]);
            }
        }
    }
}
