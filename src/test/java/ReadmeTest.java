import java.io.IOException;
import java.lang.reflect.Method;
import java.lang.reflect.Modifier;
import java.net.URL;
import java.net.URLClassLoader;
import java.nio.file.Files;
import java.nio.file.Path;
import java.util.ArrayList;
import java.util.Comparator;
import java.util.List;
import java.util.Set;
import java.util.TreeSet;
import java.util.regex.Matcher;
import java.util.regex.Pattern;
import java.util.stream.Stream;
import javax.tools.JavaCompiler;
import javax.tools.ToolProvider;

/**
 * The examples of README.md, compiled as they stand there and run: each call must answer the
 * number behind it, each call of the class must have an example, each finding its number.
 */
public final class ReadmeTest {
    private static final String[] FINDINGS =
            {"BEYOND", "FULL", "KIND", "NONE", "STATE", "MISSING", "SIZE"};
    private static final Pattern CALL = Pattern.compile("((?:int|long) \\w+ = )?"
            + "(port\\.(\\w+)\\(.*\\));\\s*// (-?\\d+)(?!\\w)(.*)");
    private static final Pattern NAMED = Pattern.compile("\\(([A-Z]+)\\)$");

    private static int told = 0;
    private static int wrong = 0;

    /** Called by the examples; it is public because they are compiled as a class apart. */
    public static long due(int line, long got, long want) {
        must(got == want, "README.md, line " + line + ", answers " + got + ", told is " + want);
        return got;
    }

    private static void must(boolean holds, String otherwise) {
        if (!holds) {
            wrong++;
            System.out.println(otherwise);
        }
    }

    private static long answerOf(String finding) {
        for (int i = 0; i < FINDINGS.length; i++) {
            if (FINDINGS[i].equals(finding)) {
                return -1000001 - i;
            }
        }
        return 0;
    }

    /** Each block is a method; one that makes no object goes on where the one before it ended. */
    private static String programOf(List<String> lines, Set<String> shown) {
        StringBuilder program = new StringBuilder("public class Examples {\n");
        StringBuilder block = new StringBuilder();
        int blocks = 0;
        boolean inside = false;
        for (int i = 0; i < lines.size(); i++) {
            String line = lines.get(i);
            if (line.startsWith("```")) {
                inside = line.equals("```java");
            } else if (inside) {
                if (line.contains("new VaguePort()")) {
                    blocks += append(program, blocks, block);
                }
                block.append(statementOf(i + 1, line, shown)).append('\n');
            }
        }
        append(program, blocks, block);
        return program.append("}\n").toString();
    }

    private static int append(StringBuilder program, int blocks, StringBuilder block) {
        if (block.length() == 0) {
            return 0;
        }
        program.append("public static void example").append(blocks).append("() {\n");
        program.append(block).append("}\n");
        block.setLength(0);
        return 1;
    }

    private static String statementOf(int number, String line, Set<String> shown) {
        Matcher m = CALL.matcher(line);
        if (!m.matches()) {
            must(!line.startsWith("port.") && !line.startsWith("int "),
                    "README.md, line " + number + ", tells no answer: " + line);
            return line;
        }
        told++;
        shown.add(m.group(3));
        Matcher named = NAMED.matcher(m.group(5));
        boolean isFinding = Long.parseLong(m.group(4)) < -1000000;
        must(!isFinding || named.find() && answerOf(named.group(1)) == Long.parseLong(m.group(4)),
                "README.md, line " + number + ", doesn't name its finding rightly: " + line);
        String declared = m.group(1) == null ? "" : m.group(1) + "(int) ";
        return declared + "ReadmeTest.due(" + number + ", " + m.group(2) + ", " + m.group(4) + "L);";
    }

    private static void findings(String readme) {
        for (String finding : FINDINGS) {
            must(Pattern.compile("\\| " + finding + " *\\| " + answerOf(finding) + " \\|")
                    .matcher(readme).find(), "README.md doesn't tell the number of " + finding);
        }
    }

    private static void everyCallIsShown(Set<String> shown) {
        for (Method m : VaguePort.class.getDeclaredMethods()) {
            must(!Modifier.isPublic(m.getModifiers()) || shown.contains(m.getName()),
                    "README.md has no example of " + m.getName());
        }
    }

    private static void compileAndRun(String program, Path directory) throws Exception {
        Path source = directory.resolve("Examples.java");
        Files.writeString(source, program);
        JavaCompiler javac = ToolProvider.getSystemJavaCompiler();
        boolean compiles = javac != null && javac.run(null, System.out, System.out, "-d",
                directory.toString(), "-cp", System.getProperty("java.class.path"),
                source.toString()) == 0;
        must(compiles, "the examples of README.md do not compile");
        if (!compiles) {
            return;
        }
        URL[] where = {directory.toUri().toURL()};
        try (URLClassLoader loader =
                new URLClassLoader(where, ReadmeTest.class.getClassLoader())) {
            for (Method example : loader.loadClass("Examples").getDeclaredMethods()) {
                example.invoke(null);
            }
        }
    }

    private static void deleteAll(Path directory) throws IOException {
        List<Path> paths = new ArrayList<>();
        try (Stream<Path> all = Files.walk(directory)) {
            all.sorted(Comparator.reverseOrder()).forEach(paths::add);
        }
        for (Path path : paths) {
            Files.delete(path);
        }
    }

    public static void main(String[] args) throws Exception {
        Path readme = Path.of("README.md");
        Set<String> shown = new TreeSet<>();
        String program = programOf(Files.readAllLines(readme), shown);
        Path directory = Files.createTempDirectory("examples");
        try {
            compileAndRun(program, directory);
        } finally {
            deleteAll(directory);
        }
        findings(Files.readString(readme));
        everyCallIsShown(shown);
        must(Files.readString(readme).contains(".ci/run"),
                "README.md doesn't say how to run the tests");
        System.out.println(told + " answers told, " + wrong + " wrong");
        System.exit(wrong == 0 ? 0 : 1);
    }
}
