import java.io.ByteArrayOutputStream;
import java.io.File;
import java.io.PrintStream;
import java.net.URL;
import java.net.URLClassLoader;
import java.nio.charset.StandardCharsets;
import java.nio.file.Files;
import java.nio.file.Path;
import java.util.ArrayList;
import java.util.List;
import javax.tools.JavaCompiler;
import javax.tools.ToolProvider;

/** The example in README.md compiles with the class, and prints what it says that it prints. */
public final class ReadmeTest {
    private static final String FENCE = "```";
    private static final String SAID = "// prints ";

    private static List<String> example() throws Exception {
        List<String> lines = new ArrayList<>();
        boolean inside = false;
        for (String line : Files.readAllLines(Path.of("README.md"))) {
            if (line.startsWith(FENCE)) {
                inside = line.equals(FENCE + "java");
            } else if (inside) {
                lines.add(line);
            }
        }
        return lines;
    }

    private static List<String> said(List<String> lines) {
        List<String> said = new ArrayList<>();
        for (String line : lines) {
            int at = line.indexOf(SAID);
            if (at >= 0) {
                said.add(line.substring(at + SAID.length()).trim());
            }
        }
        return said;
    }

    private static List<String> printed(Path folder, List<String> lines) throws Exception {
        Path source = folder.resolve("Example.java");
        Files.write(source, lines);
        JavaCompiler compiler = ToolProvider.getSystemJavaCompiler();
        int code = compiler.run(null, null, null, "-d", folder.toString(), "-encoding", "UTF-8",
                "src/main/java/ValueSieve.java", source.toString());
        if (code != 0) {
            return List.of("(it does not compile)");
        }
        PrintStream before = System.out;
        ByteArrayOutputStream bytes = new ByteArrayOutputStream();
        // Its own loader without a parent that knows the class: the example meets what was just compiled.
        try (URLClassLoader loader = new URLClassLoader(new URL[] {folder.toUri().toURL()}, null)) {
            System.setOut(new PrintStream(bytes, true, StandardCharsets.UTF_8));
            loader.loadClass("Example").getMethod("main", String[].class).invoke(null, (Object) new String[0]);
        } finally {
            System.setOut(before);
        }
        return bytes.toString(StandardCharsets.UTF_8).lines().toList();
    }

    private static void remove(Path folder) {
        File[] files = folder.toFile().listFiles();
        for (File file : files == null ? new File[0] : files) {
            file.delete();
        }
        folder.toFile().delete();
    }

    public static void main(String[] args) throws Exception {
        List<String> lines = example();
        List<String> said = said(lines);
        Path folder = Files.createTempDirectory("readme");
        List<String> printed;
        try {
            printed = printed(folder, lines);
        } finally {
            remove(folder);
        }
        if (said.isEmpty() || !said.equals(printed)) {
            System.out.println("README.md says that its example prints " + said + ", but it prints " + printed);
            System.exit(1);
        }
    }
}
