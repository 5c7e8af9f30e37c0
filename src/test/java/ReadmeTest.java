import java.io.File;
import java.io.IOException;
import java.nio.charset.StandardCharsets;
import java.nio.file.Files;
import java.nio.file.Path;
import java.util.Comparator;
import java.util.List;
import java.util.regex.Matcher;
import java.util.regex.Pattern;
import java.util.stream.Stream;
import javax.tools.ToolProvider;

/** The example of README.md prints what README.md says. Run from the top folder. */
public final class ReadmeTest {
    private static final Path README = Path.of("README.md");

    public static void main(String[] args) throws IOException, InterruptedException {
        String readme = Files.readString(README);
        Path folder = Files.createTempDirectory("readme");
        try {
            Path source = folder.resolve("Example.java");
            Files.writeString(source, block(readme, "java"));
            if (compiles(source, folder)) {
                Check.same("the example", printed(folder), block(readme, "text"));
            } else {
                Check.wrong("the example does not compile");
            }
        } finally {
            remove(folder);
        }
        Check.end();
    }

    private static String block(String readme, String language) {
        Matcher found = Pattern.compile("(?s)\n```" + language + "\n(.*?)```\n").matcher(readme);
        return found.find() ? found.group(1) : "";
    }

    private static boolean compiles(Path source, Path folder) {
        return ToolProvider.getSystemJavaCompiler().run(null, null, null,
                "-cp", System.getProperty("java.class.path"), "-d", folder.toString(),
                source.toString()) == 0;
    }

    private static String printed(Path folder) throws IOException, InterruptedException {
        String command = Path.of(System.getProperty("java.home"), "bin", "java").toString();
        String classes = System.getProperty("java.class.path") + File.pathSeparator + folder;
        Process process = new ProcessBuilder(List.of(command, "-cp", classes, "Example"))
                .redirectErrorStream(true).start();
        String text = new String(process.getInputStream().readAllBytes(), StandardCharsets.UTF_8);
        Check.same("the exit code of the example", process.waitFor(), 0);
        return text.replace(System.lineSeparator(), "\n");
    }

    private static void remove(Path folder) throws IOException {
        try (Stream<Path> files = Files.walk(folder)) {
            for (Path file : files.sorted(Comparator.reverseOrder()).toList()) {
                Files.delete(file);
            }
        }
    }
}
