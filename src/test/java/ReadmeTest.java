import java.io.ByteArrayOutputStream;
import java.io.IOException;
import java.io.PrintStream;
import java.nio.file.Files;
import java.nio.file.Path;
import javax.tools.ToolProvider;

/** The example of README.md is compiled as it stands there, and prints what README.md says. */
public final class ReadmeTest {
    public static void main(String[] args) throws Exception {
        String readme = Files.readString(Path.of("README.md"));
        Path room = Files.createTempDirectory("readme");
        try {
            Path file = Files.writeString(room.resolve("Evening.java"), block(readme, "java"));
            int failed = ToolProvider.getSystemJavaCompiler().run(null, null, null, "-Xlint:all", "-d", room.toString(),
                    "src/main/java/TavernStools.java", file.toString());
            Checks.due("README: the example compiles", 0, failed);
            if (failed == 0) {
                Checks.due("README: what it prints", block(readme, "text"), printed(room));
            }
        } finally {
            empty(room);
        }
        Checks.end();
    }

    /** What stands between the lines that open and close the block of this kind. */
    private static String block(String readme, String kind) {
        String opening = "\n```" + kind + "\n";
        int start = readme.indexOf(opening) + opening.length();
        return readme.substring(start, readme.indexOf("\n```", start) + 1);
    }

    private static String printed(Path room) throws IOException, InterruptedException {
        String java = Path.of(System.getProperty("java.home"), "bin", "java").toString();
        Process process = new ProcessBuilder(java, "-cp", room.toString(), "Evening").redirectErrorStream(true).start();
        ByteArrayOutputStream all = new ByteArrayOutputStream();
        process.getInputStream().transferTo(new PrintStream(all));
        process.waitFor();
        return all.toString();
    }

    private static void empty(Path room) throws IOException {
        for (java.io.File file : room.toFile().listFiles()) {
            Files.delete(file.toPath());
        }
        Files.delete(room);
    }
}
