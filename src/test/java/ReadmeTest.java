import java.io.ByteArrayOutputStream;
import java.io.IOException;
import java.io.PrintStream;
import java.lang.reflect.Method;
import java.lang.reflect.Modifier;
import java.net.URL;
import java.net.URLClassLoader;
import java.nio.charset.StandardCharsets;
import java.nio.file.Files;
import java.nio.file.Path;
import java.util.Comparator;
import java.util.regex.Matcher;
import java.util.regex.Pattern;
import javax.tools.JavaCompiler;
import javax.tools.ToolProvider;

/** What README.md tells of the use of the class: its program compiles and prints what it says, each call has its place. */
public final class ReadmeTest extends Check {
    public static void main(String[] args) throws Exception {
        promise = "README.md";
        String readme = Files.readString(Path.of("README.md"));
        due("the program", printedBy(blockOf(readme, "java")), blockOf(readme, "text"));
        eachCallStandsThere(readme);
        due("how to run the tests", readme.contains("    .ci/run\n"), true);
        eachTestStandsThere(readme);
        end();
    }

    private static String blockOf(String readme, String kind) {
        Matcher block = Pattern.compile("```" + kind + "\n(.*?)```", Pattern.DOTALL).matcher(readme);
        return block.find() ? block.group(1) : "";
    }

    private static String printedBy(String program) throws Exception {
        Path room = Files.createTempDirectory("readme");
        Path source = room.resolve("Example.java");
        Files.writeString(source, program);
        JavaCompiler javac = ToolProvider.getSystemJavaCompiler();
        int wrong = javac.run(null, null, null, "--release", "17", "-d", room.toString(), source.toString(), "src/main/java/SecondTelling.java");
        String printed = wrong == 0 ? run(room) : "nothing, for it does not compile";
        try (var files = Files.walk(room)) {
            files.sorted(Comparator.reverseOrder()).forEach(f -> f.toFile().delete());
        }
        return printed;
    }

    private static String run(Path room) throws Exception {
        PrintStream out = System.out;
        ByteArrayOutputStream printed = new ByteArrayOutputStream();
        try (URLClassLoader loader = new URLClassLoader(new URL[] {room.toUri().toURL()}, null)) {
            System.setOut(new PrintStream(printed, true));
            loader.loadClass("Example").getMethod("main", String[].class).invoke(null, (Object) new String[0]);
        } finally {
            System.setOut(out);
        }
        return printed.toString(StandardCharsets.UTF_8).replace("\r\n", "\n");
    }

    private static void eachCallStandsThere(String readme) {
        for (Method m : SecondTelling.class.getDeclaredMethods()) {
            if (Modifier.isPublic(m.getModifiers())) {
                due("tells of " + m.getName(), readme.contains("`" + m.getName() + "`"), true);
            }
        }
    }

    private static void eachTestStandsThere(String readme) throws IOException {
        try (var tests = Files.newDirectoryStream(Path.of("src/test/java"), "*.java")) {
            for (Path test : tests) {
                String name = test.getFileName().toString().replace(".java", "");
                due("tells of " + name, readme.contains("`" + name), true);
            }
        }
    }
}
