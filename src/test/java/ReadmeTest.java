import java.io.ByteArrayOutputStream;
import java.io.IOException;
import java.io.PrintStream;
import java.lang.reflect.Method;
import java.lang.reflect.Modifier;
import java.net.URL;
import java.net.URLClassLoader;
import java.nio.charset.StandardCharsets;
import java.nio.file.Files;
import java.nio.file.Path;
import java.util.regex.Matcher;
import java.util.regex.Pattern;
import javax.tools.ToolProvider;

/** README.md holds: its program compiles and prints what it says, it names every call, and its files are there. */
public final class ReadmeTest {
    private static final Check CHECK = new Check();

    private ReadmeTest() {
    }

    public static void main(String[] args) throws Exception {
        String readme = Files.readString(Path.of("README.md"));
        Path work = Files.createTempDirectory("readme");
        try {
            CHECK.dueSame("what the program prints", printed(work, block(readme, "```java\n")), block(readme, "```text\n"));
        } finally {
            clear(work);
        }
        for (Method m : BidLines.class.getDeclaredMethods()) {
            if (Modifier.isPublic(m.getModifiers())) {
                CHECK.due(m.getName() + " is named", readme.contains("`" + shape(m)), true);
            }
        }
        namesTests(readme);
        CHECK.finish("ReadmeTest");
    }

    private static String block(String readme, String fence) {
        int from = readme.indexOf(fence) + fence.length();
        return readme.substring(from, readme.indexOf("```", from));
    }

    /** The call's name with so many arguments as it has. */
    private static String shape(Method m) {
        return m.getName() + "(" + (m.getParameterCount() == 0 ? ")" : "");
    }

    private static String printed(Path work, String program) throws Exception {
        Path file = Files.writeString(work.resolve("Example.java"), program);
        int faults = ToolProvider.getSystemJavaCompiler().run(null, null, null, "-cp",
                System.getProperty("java.class.path"), "-d", work.toString(), file.toString());
        CHECK.due("faults of the program", faults, 0);
        PrintStream out = System.out;
        ByteArrayOutputStream caught = new ByteArrayOutputStream();
        try (URLClassLoader loader = new URLClassLoader(new URL[] {work.toUri().toURL()})) {
            System.setOut(new PrintStream(caught, true, StandardCharsets.UTF_8));
            loader.loadClass("Example").getMethod("main", String[].class).invoke(null, (Object) new String[0]);
        } finally {
            System.setOut(out);
        }
        return caught.toString(StandardCharsets.UTF_8).replace("\r\n", "\n");
    }

    private static void clear(Path work) throws IOException {
        try (var files = Files.list(work)) {
            for (Path file : files.toList()) {
                Files.delete(file);
            }
        }
        Files.delete(work);
    }

    /** Each test that is there is named, with ".." for what several names have between their ends. */
    private static void namesTests(String readme) throws IOException {
        StringBuilder named = new StringBuilder();
        Matcher names = Pattern.compile("`([A-Za-z.]+Test)`").matcher(readme);
        while (names.find()) {
            named.append(named.length() == 0 ? "" : "|").append(names.group(1).replace("..", "\\w+"));
        }
        try (var files = Files.list(Path.of("src/test/java"))) {
            for (Path file : files.toList()) {
                String name = file.getFileName().toString().replace(".java", "");
                if (name.endsWith("Test")) {
                    CHECK.due(name + " is named", name.matches(named.toString()), true);
                }
            }
        }
    }
}
