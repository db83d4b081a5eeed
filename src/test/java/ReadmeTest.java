import java.io.IOException;
import java.lang.reflect.Method;
import java.lang.reflect.Modifier;
import java.nio.charset.StandardCharsets;
import java.nio.file.Files;
import java.nio.file.Path;
import java.util.ArrayList;
import java.util.Comparator;
import java.util.List;
import java.util.stream.Stream;

/** Does what README.md says on how to use the class, as it is written, in a directory of its own. */
public final class ReadmeTest {
    private static final Path PROGRAM = Path.of("src", "main", "java", "Aislewright.java");

    public static void main(String[] args) throws IOException, InterruptedException {
        String page = Files.readString(Path.of("README.md"));
        namesEachCall(page);
        Path place = Files.createTempDirectory("readme");
        try {
            Files.createDirectories(place.resolve(PROGRAM).getParent());
            Files.copy(PROGRAM, place.resolve(PROGRAM));
            Files.writeString(place.resolve("Example.java"), block(page, "java"));
            StringBuilder printed = new StringBuilder();
            for (String command : block(page, "sh").strip().split("\n")) {
                printed.append(printedBy(command, place));
            }
            Check.same("what README.md says is printed", block(page, "text"), printed.toString());
        } finally {
            remove(place);
        }
        Check.end("ReadmeTest");
    }

    private static void namesEachCall(String page) {
        for (Method call : Aislewright.class.getDeclaredMethods()) {
            if (Modifier.isPublic(call.getModifiers())) {
                Check.same("README.md names " + call.getName(), "true", "" + page.contains("`" + call.getName() + "`"));
            }
        }
    }

    /** The lines between ``` with this word and the next ```. */
    private static String block(String page, String word) {
        String begin = "```" + word + "\n";
        int from = page.indexOf(begin);
        int to = page.indexOf("```", from + begin.length());
        if (from < 0 || to < 0) {
            throw new AssertionError("README.md has no block of " + word);
        }
        return page.substring(from + begin.length(), to);
    }

    private static String printedBy(String command, Path place) throws IOException, InterruptedException {
        ProcessBuilder process = new ProcessBuilder(command.split(" "));
        // What the launcher says of options that it picks up is not the example's.
        process.environment().remove("JAVA_TOOL_OPTIONS");
        Process run = process.directory(place.toFile()).redirectErrorStream(true).start();
        String printed = new String(run.getInputStream().readAllBytes(), StandardCharsets.UTF_8);
        Check.same(command + " ends with " + printed, "0", "" + run.waitFor());
        return printed.replace("\r\n", "\n");
    }

    private static void remove(Path place) throws IOException {
        List<Path> all = new ArrayList<>();
        try (Stream<Path> walk = Files.walk(place)) {
            walk.sorted(Comparator.reverseOrder()).forEach(all::add);
        }
        for (Path path : all) {
            Files.delete(path);
        }
    }
}
