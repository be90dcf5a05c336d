import java.io.ByteArrayOutputStream;
import java.io.PrintStream;
import java.net.URL;
import java.net.URLClassLoader;
import java.nio.file.Files;
import java.nio.file.Path;
import java.util.ArrayList;
import java.util.List;
import java.util.regex.Matcher;
import java.util.regex.Pattern;
import javax.tools.ToolProvider;

/** The example in README.md, made and run: each line prints what stands behind it. */
public final class ReadmeTest {
    private static final Check C = new Check("ReadmeTest");
    private static final Pattern ANSWERS = Pattern.compile("println\\(x\\..*\\); *// (-?\\d+)");

    public static void main(String[] args) throws Exception {
        String readme = Files.readString(Path.of("README.md"));
        int from = readme.indexOf("```java\n") + 8;
        String code = readme.substring(from, readme.indexOf("```", from));
        List<String> due = new ArrayList<>();
        Matcher answers = ANSWERS.matcher(code);
        while (answers.find()) {
            due.add(answers.group(1));
        }
        C.holds("some answers", due.size() > 4);
        C.due("prints " + due, String.join(" ", printed(code)).equals(String.join(" ", due)) ? 1 : 0, 1);
        C.end();
    }

    private static List<String> printed(String code) throws Exception {
        Path out = Files.createDirectories(Path.of("out", "readme"));
        Path file = out.resolve("Example.java");
        Files.writeString(file, code);
        C.due("javac", ToolProvider.getSystemJavaCompiler().run(null, null, null, "-d", out.toString(), "-cp",
            System.getProperty("java.class.path"), file.toString()), 0);
        PrintStream before = System.out;
        ByteArrayOutputStream told = new ByteArrayOutputStream();
        try (URLClassLoader loader = new URLClassLoader(new URL[] {out.toUri().toURL()})) {
            System.setOut(new PrintStream(told));
            loader.loadClass("Example").getMethod("main", String[].class).invoke(null, (Object) new String[0]);
        } finally {
            System.setOut(before);
        }
        return List.of(told.toString().trim().split("\\s+"));
    }
}
