import java.io.ByteArrayOutputStream;
import java.io.File;
import java.io.IOException;
import java.io.PrintStream;
import java.lang.reflect.Member;
import java.lang.reflect.Method;
import java.lang.reflect.Modifier;
import java.net.URL;
import java.net.URLClassLoader;
import java.nio.charset.StandardCharsets;
import java.nio.file.Files;
import java.nio.file.Path;
import java.util.ArrayList;
import java.util.Arrays;
import java.util.List;
import javax.tools.ToolProvider;

/**
 * What README.md says on the use of the class: its example prints what stands
 * below it, and it leaves no call of the face out. It is read from the directory
 * in which the test runs.
 */
public final class ReadmeTests extends Checks {
    private static final String EXAMPLE = "Example";

    public static void main(String[] args) throws IOException {
        String readme = Files.readString(Path.of("README.md"), StandardCharsets.UTF_8);
        sentence("An example .. It prints", () -> dueText("the example prints", printed(readme), block(readme, "text")));
        sentence("Calls", () -> everyCall(readme));
        end();
    }

    /** The text of the first block of that kind; the test fails without one. */
    private static String block(String readme, String kind) {
        String opening = "```" + kind + "\n";
        int from = readme.indexOf(opening);
        int to = readme.indexOf("```\n", from + opening.length());
        return from < 0 || to < 0 ? "no block of " + kind : readme.substring(from + opening.length(), to);
    }

    private static String printed(String readme) {
        try {
            Path directory = Files.createTempDirectory("readme");
            try {
                return printedBy(block(readme, "java"), directory);
            } finally {
                remove(directory);
            }
        } catch (IOException | ReflectiveOperationException e) {
            return "nothing: " + e;
        }
    }

    private static String printedBy(String source, Path directory) throws IOException, ReflectiveOperationException {
        Path file = directory.resolve(EXAMPLE + ".java");
        Files.writeString(file, source, StandardCharsets.UTF_8);
        int failed = ToolProvider.getSystemJavaCompiler().run(null, null, null, "--release", "17",
                "-cp", System.getProperty("java.class.path"), "-d", directory.toString(), file.toString());
        if (failed != 0) {
            return "nothing: it does not compile";
        }
        try (URLClassLoader loader = new URLClassLoader(new URL[] {directory.toUri().toURL()})) {
            return printedBy(loader.loadClass(EXAMPLE).getMethod("main", String[].class));
        }
    }

    private static String printedBy(Method main) throws ReflectiveOperationException {
        PrintStream usual = System.out;
        ByteArrayOutputStream seen = new ByteArrayOutputStream();
        System.setOut(new PrintStream(seen, true, StandardCharsets.UTF_8));
        try {
            main.invoke(null, (Object) new String[0]);
        } finally {
            System.setOut(usual);
        }
        return seen.toString(StandardCharsets.UTF_8).replace(System.lineSeparator(), "\n");
    }

    private static void remove(Path directory) {
        for (File file : directory.toFile().listFiles()) {
            file.delete();
        }
        directory.toFile().delete();
    }

    private static void everyCall(String readme) {
        List<Member> face = new ArrayList<>();
        face.addAll(Arrays.asList(BigCalculator.class.getDeclaredMethods()));
        face.addAll(Arrays.asList(BigCalculator.class.getDeclaredFields()));
        for (Member member : face) {
            if (Modifier.isPublic(member.getModifiers())) {
                String told = "`" + member.getName() + (member instanceof Method ? "(" : "`");
                due("README.md has " + told, readme.contains(told) ? 1 : 0, 1);
            }
        }
    }
}
