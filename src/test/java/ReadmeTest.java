import java.io.ByteArrayOutputStream;
import java.io.File;
import java.io.IOException;
import java.nio.charset.StandardCharsets;
import java.nio.file.Files;
import java.nio.file.Path;
import java.util.ArrayList;
import java.util.List;
import javax.tools.ToolProvider;

/** The example in README.md compiles, and prints what stands there. */
public final class ReadmeTest {
    private static String block(List<String> lines, String sort) {
        StringBuilder b = new StringBuilder();
        int from = lines.indexOf("```" + sort) + 1;
        for (int n = from; from > 0 && n < lines.size() && !lines.get(n).equals("```"); n++) {
            b.append(lines.get(n)).append('\n');
        }
        return b.toString();
    }

    private static String run(String example, Path out) throws IOException, InterruptedException {
        Path source = out.resolve("Example.java");
        Files.writeString(source, example);
        String path = System.getProperty("java.class.path");
        ByteArrayOutputStream told = new ByteArrayOutputStream();
        if (ToolProvider.getSystemJavaCompiler().run(null, told, told, "-d", out.toString(), "-cp", path, source.toString()) != 0) {
            return "it does not compile: " + told.toString(StandardCharsets.UTF_8);
        }
        String java = Path.of(System.getProperty("java.home"), "bin", "java").toString();
        String classes = path + File.pathSeparator + out;
        Process p = new ProcessBuilder(java, "-cp", classes, "Example").redirectErrorStream(true).start();
        String printed = new String(p.getInputStream().readAllBytes(), StandardCharsets.UTF_8);
        p.waitFor();
        return printed.replace("\r", "");
    }

    private static void remove(Path out) throws IOException {
        List<Path> files = new ArrayList<>();
        try (var all = Files.list(out)) {
            all.forEach(files::add);
        }
        for (Path file : files) {
            Files.delete(file);
        }
        Files.delete(out);
    }

    public static void main(String[] args) throws IOException, InterruptedException {
        List<String> lines = Files.readAllLines(Path.of("README.md"));
        Path out = Files.createTempDirectory("readme");
        String printed = run(block(lines, "java"), out);
        remove(out);
        if (printed.isEmpty() || !printed.equals(block(lines, "text"))) {
            System.out.println("the example of README.md printed:\n" + printed);
            System.exit(1);
        }
    }
}
