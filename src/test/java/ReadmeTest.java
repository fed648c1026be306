import java.io.IOException;
import java.lang.reflect.Field;
import java.lang.reflect.Method;
import java.lang.reflect.Modifier;
import java.nio.charset.StandardCharsets;
import java.nio.file.Files;
import java.nio.file.Path;

/** What README.md says is so: its example prints what is told there, and the whole face stands in it. */
public final class ReadmeTest {
    private static final String FENCE = "```";

    public static void main(String[] args) throws IOException, InterruptedException, IllegalAccessException {
        String readme = Files.readString(Path.of("README.md"));
        example(readme);
        face(readme);
        Check.end();
    }

    private static void example(String readme) throws IOException, InterruptedException {
        String told = block(readme, "text");
        String printed = printedBy(block(readme, "java"));
        Check.yes("README.md tells that its example prints\n" + told + "but it prints\n" + printed,
            printed.equals(told));
    }

    /** The first block of this kind, without its fences. */
    private static String block(String readme, String kind) {
        String opening = "\n" + FENCE + kind + "\n";
        int from = readme.indexOf(opening) + opening.length();
        return readme.substring(from, readme.indexOf(FENCE, from));
    }

    private static String printedBy(String program) throws IOException, InterruptedException {
        Path directory = Files.createTempDirectory("readme");
        Path file = directory.resolve("Example.java");
        try {
            Files.writeString(file, program);
            String java = Path.of(System.getProperty("java.home"), "bin", "java").toString();
            Process process = new ProcessBuilder(java, "-cp", System.getProperty("java.class.path"), file.toString())
                .redirectError(ProcessBuilder.Redirect.INHERIT).start();
            String printed = new String(process.getInputStream().readAllBytes(), StandardCharsets.UTF_8);
            Check.due("exit code of the example", process.waitFor(), 0);
            return printed.replace(System.lineSeparator(), "\n");
        } finally {
            Files.deleteIfExists(file);
            Files.delete(directory);
        }
    }

    private static void face(String readme) throws IllegalAccessException {
        for (Method method : RangedPool.class.getDeclaredMethods()) {
            if (Modifier.isPublic(method.getModifiers())) {
                String call = "`" + method.getName() + "(";
                Check.yes("README.md tells " + call, readme.contains(call));
            }
        }
        for (Field field : RangedPool.class.getFields()) {
            String code = "`" + field.getName() + "` (" + field.getInt(null) + ")";
            Check.yes("README.md tells " + code, readme.contains(code));
        }
    }
}
