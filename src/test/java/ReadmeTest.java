import java.io.ByteArrayOutputStream;
import java.io.File;
import java.io.IOException;
import java.io.PrintStream;
import java.net.URL;
import java.net.URLClassLoader;
import java.nio.file.Files;
import java.nio.file.Path;
import javax.tools.ToolProvider;

/** The example of README.md compiles and prints what README.md says; run in the project's directory. */
public final class ReadmeTest {
    private static final String FENCE = "```";

    public static void main(String[] args) throws Exception {
        String readme = Files.readString(Path.of("README.md"));
        Check.due("README.md's example prints", printedBy(block(readme, "java")), block(readme, "text"));
        Check.finish();
    }

    /** The first block of this kind. */
    private static String block(String text, String kind) {
        String opening = FENCE + kind + "\n";
        int start = text.indexOf(opening) + opening.length();
        return text.substring(start, text.indexOf(FENCE, start));
    }

    private static String printedBy(String example) throws Exception {
        Path place = Files.createTempDirectory("readme");
        try {
            Path source = Files.writeString(place.resolve("Example.java"), example);
            int failed = ToolProvider.getSystemJavaCompiler().run(null, System.out, System.out,
                "-cp", System.getProperty("java.class.path"), "-d", place.toString(), source.toString());
            return failed == 0 ? printedByClassIn(place) : "does not compile";
        } finally {
            remove(place);
        }
    }

    private static String printedByClassIn(Path place) throws Exception {
        PrintStream usual = System.out;
        ByteArrayOutputStream printed = new ByteArrayOutputStream();
        try (URLClassLoader loader = new URLClassLoader(new URL[] {place.toUri().toURL()})) {
            System.setOut(new PrintStream(printed, true));
            loader.loadClass("Example").getMethod("main", String[].class).invoke(null, (Object) new String[0]);
        } finally {
            System.setOut(usual);
        }
        return printed.toString().replace(System.lineSeparator(), "\n");
    }

    private static void remove(Path place) throws IOException {
        for (File file : place.toFile().listFiles()) {
            Files.delete(file.toPath());
        }
        Files.delete(place);
    }
}
