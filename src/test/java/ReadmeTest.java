import java.io.ByteArrayOutputStream;
import java.io.IOException;
import java.io.PrintStream;
import java.net.URL;
import java.net.URLClassLoader;
import java.nio.charset.StandardCharsets;
import java.nio.file.Files;
import java.nio.file.Path;
import java.util.List;
import javax.tools.ToolProvider;

/** The example in README.md: it compiles with the class and prints what README.md says. */
public final class ReadmeTest {
    public static void main(String[] args) throws IOException, ReflectiveOperationException {
        String readme = Files.readString(Path.of("README.md"), StandardCharsets.UTF_8);
        Path folder = Files.createTempDirectory("readme");
        Path source = folder.resolve("Visit.java");
        Files.writeString(source, block(readme, "java"), StandardCharsets.UTF_8);
        int failed = ToolProvider.getSystemJavaCompiler().run(null, null, null, "-d", folder.toString(),
                "src/main/java/MoonComplaintWindow.java", source.toString());
        Check.due("javac of the example", failed, 0);
        if (failed == 0) {
            Check.due("the example", printed(folder), block(readme, "text"));
        }
        delete(folder);
        Check.end("ReadmeTest");
    }

    /** The first code block of this language. */
    private static String block(String readme, String language) {
        String fence = "```" + language + "\n";
        int start = readme.indexOf(fence) + fence.length();
        return readme.substring(start, readme.indexOf("```", start));
    }

    private static String printed(Path folder) throws IOException, ReflectiveOperationException {
        ByteArrayOutputStream bytes = new ByteArrayOutputStream();
        PrintStream before = System.out;
        URL[] place = {folder.toUri().toURL()};
        try (URLClassLoader loader = new URLClassLoader(place, ClassLoader.getPlatformClassLoader())) {
            System.setOut(new PrintStream(bytes, true, StandardCharsets.UTF_8));
            loader.loadClass("Visit").getMethod("main", String[].class).invoke(null, (Object) new String[0]);
        } finally {
            System.setOut(before);
        }
        return bytes.toString(StandardCharsets.UTF_8).replace(System.lineSeparator(), "\n");
    }

    private static void delete(Path folder) throws IOException {
        List<Path> files;
        try (java.util.stream.Stream<Path> list = Files.list(folder)) {
            files = list.toList();
        }
        for (Path file : files) {
            Files.delete(file);
        }
        Files.delete(folder);
    }
}
