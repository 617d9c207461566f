import java.io.ByteArrayOutputStream;
import java.io.IOException;
import java.io.PrintStream;
import java.net.URL;
import java.net.URLClassLoader;
import java.nio.file.Files;
import java.nio.file.Path;
import java.util.ArrayList;
import java.util.List;
import java.util.regex.Matcher;
import java.util.regex.Pattern;
import java.util.stream.Stream;
import javax.tools.ToolProvider;

/** The program in README.md: it compiles, and prints the answers that stand behind its calls. */
public final class ReadmeTest {
    public static void main(String[] args) throws Exception {
        Path root = Path.of(args.length > 0 ? args[0] : ".");
        String readme = Files.readString(root.resolve("README.md"));
        String program = found(readme, "(?s)```java\n(.*?)```");
        List<String> want = answersTold(program);
        List<String> got = answersPrinted(root, program);
        yes("the program shows some answers", want.size() > 10);
        yes("it printed " + got + ", README.md tells " + want, got.equals(want));
        allCallsAreTold(readme);
        allTestsAreTold(root, readme);
        Check.end("ReadmeTest");
    }

    private static String found(String text, String pattern) {
        Matcher m = Pattern.compile(pattern).matcher(text);
        return m.find() ? m.group(1) : "";
    }

    private static List<String> answersTold(String program) {
        List<String> answers = new ArrayList<>();
        Matcher m = Pattern.compile("show\\(x\\..*// ([^:]+):").matcher(program);
        while (m.find()) {
            answers.add(m.group(1));
        }
        return answers;
    }

    private static List<String> answersPrinted(Path root, String program) throws Exception {
        Path dir = Files.createTempDirectory("readme");
        Path file = Files.writeString(dir.resolve("Example.java"), program);
        String source = root.resolve("src/main/java/TingDecks.java").toString();
        int failed = ToolProvider.getSystemJavaCompiler().run(null, null, null, "-d", dir.toString(), source, file.toString());
        Check.same("javac of the program in README.md", failed, 0);
        ByteArrayOutputStream bytes = new ByteArrayOutputStream();
        PrintStream out = System.out;
        try (URLClassLoader loader = new URLClassLoader(new URL[] {dir.toUri().toURL()}, null)) {
            System.setOut(new PrintStream(bytes, true));
            loader.loadClass("Example").getMethod("main", String[].class).invoke(null, (Object) new String[0]);
        } finally {
            System.setOut(out);
            removeAll(dir);
        }
        return bytes.toString().lines().toList();
    }

    private static void removeAll(Path dir) throws IOException {
        try (Stream<Path> files = Files.list(dir)) {
            for (Path file : files.toList()) {
                Files.delete(file);
            }
        }
        Files.delete(dir);
    }

    private static void allCallsAreTold(String readme) {
        String told = found(readme, "(?s)\\| calls \\| what for \\|\n(.*?)\n\n");
        for (java.lang.reflect.Method m : TingDecks.class.getMethods()) {
            if (m.getDeclaringClass() == TingDecks.class) {
                yes(m.getName() + " is told", Pattern.compile("[` ]" + m.getName() + "[` ]").matcher(told).find());
            }
        }
    }

    private static void allTestsAreTold(Path root, String readme) throws IOException {
        try (Stream<Path> files = Files.list(root.resolve("src/test/java"))) {
            for (Path file : files.toList()) {
                String name = file.getFileName().toString().replace(".java", "");
                yes(name + " is told", !name.endsWith("Test") || readme.contains("| " + name + " |"));
            }
        }
    }

    private static void yes(String what, boolean so) {
        Check.same(what, so ? 1 : 0, 1);
    }
}
