import java.io.IOException;
import java.lang.reflect.InvocationTargetException;
import java.lang.reflect.Method;
import java.lang.reflect.Modifier;
import java.net.URL;
import java.net.URLClassLoader;
import java.nio.file.Files;
import java.nio.file.Path;
import java.util.ArrayList;
import java.util.List;
import java.util.regex.Matcher;
import java.util.regex.Pattern;
import java.util.stream.Stream;
import javax.tools.ToolProvider;

/**
 * README.md holds: its samples compile as they stand there, and each call answers what the page says
 * behind it; the page names each call of the class and each test. Run from the project's folder.
 */
public final class ReadmeTest {
    private static final Pattern SAMPLE = Pattern.compile("(?s)```java\n(.*?)```");
    private static final Pattern ASKED = Pattern.compile("(hands\\.\\w+\\(.*?\\)); +// (-?\\d+L?|NONE|UNKNOWN|OUTSIDE|STATE|FULL)\\b.*");
    private static final List<String> CONSTANTS = List.of("NONE", "UNKNOWN", "OUTSIDE", "STATE", "FULL");

    private static final List<String> told = new ArrayList<>();
    private static int wrong = 0;

    public static void main(String[] args) throws Exception {
        String page = Files.readString(Path.of("README.md"));
        String program = program(page);
        if (wrong == 0) run(program);
        for (String constant : CONSTANTS) due(told.contains(constant), "no sample answers " + constant);
        namesCalls(page);
        namesTests(page);
        System.out.println(told.size() + " answers told by README.md, " + wrong + " faults of it");
        if (wrong != 0) System.exit(1);
    }

    private static void due(boolean holds, String what) {
        if (!holds) {
            wrong++;
            System.out.println(what);
        }
    }

    /** All samples as one method; each call that stands in a line of its own tells its answer to due(). */
    private static String program(String page) {
        StringBuilder body = new StringBuilder();
        for (Matcher sample = SAMPLE.matcher(page); sample.find(); ) {
            for (String line : sample.group(1).split("\n")) {
                Matcher asked = ASKED.matcher(line);
                if (asked.matches()) {
                    String answer = asked.group(2);
                    told.add(answer);
                    body.append("due(wrong, \"").append(asked.group(1).replace("\"", "'")).append("\", ").append(asked.group(1))
                        .append(", ").append(CONSTANTS.contains(answer) ? "DeckHands." + answer : answer).append(");\n");
                } else {
                    due(!line.contains("//") && !line.startsWith("hands."), "README.md tells no answer here: " + line);
                    body.append(line).append('\n');
                }
            }
        }
        return "public final class ReadmeSample {\n"
            + "static void due(java.util.List<String> wrong, String call, long got, long want) {\n"
            + "if (got != want) wrong.add(call + \" answered \" + got + \", README.md says \" + want);\n}\n"
            + "public static java.util.List<String> run() {\n"
            + "java.util.List<String> wrong = new java.util.ArrayList<>();\n" + body + "return wrong;\n}\n}\n";
    }

    private static void run(String program) throws IOException, ReflectiveOperationException {
        Path folder = Files.createTempDirectory("readme");
        try {
            Path source = Files.writeString(folder.resolve("ReadmeSample.java"), program);
            int failed = ToolProvider.getSystemJavaCompiler().run(null, null, null, "--release", "17", "-cp",
                System.getProperty("java.class.path"), "-d", folder.toString(), source.toString());
            due(failed == 0, "the samples do not compile");
            if (failed == 0) answers(folder);
        } finally {
            try (Stream<Path> files = Files.list(folder)) {
                for (Path file : files.toList()) Files.delete(file);
            }
            Files.delete(folder);
        }
    }

    private static void answers(Path folder) throws IOException, ReflectiveOperationException {
        try (URLClassLoader loader = new URLClassLoader(new URL[] {folder.toUri().toURL()})) {
            for (Object fault : (List<?>) loader.loadClass("ReadmeSample").getMethod("run").invoke(null)) {
                due(false, fault.toString());
            }
        } catch (InvocationTargetException e) {
            due(false, "the samples threw " + e.getCause());
        }
    }

    private static void namesCalls(String page) {
        for (Method m : DeckHands.class.getDeclaredMethods()) {
            if (Modifier.isPublic(m.getModifiers())) due(page.contains("hands." + m.getName() + "("), "no sample calls " + m.getName());
        }
    }

    private static void namesTests(String page) throws IOException {
        try (Stream<Path> files = Files.list(Path.of("src/test/java"))) {
            for (Path file : files.toList()) {
                String name = file.getFileName().toString().replace(".java", "");
                due(page.contains("- `" + name + "`:"), "README.md does not tell what " + name + " does");
            }
        }
    }
}
