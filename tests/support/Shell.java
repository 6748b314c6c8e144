import java.io.IOException;
import java.nio.charset.StandardCharsets;
import java.nio.file.Files;
import java.nio.file.Path;
import java.util.ArrayList;
import java.util.Collections;
import java.util.List;
import java.util.stream.Stream;

/** Runs a command as a user would, and keeps what it wrote and how it ended. */
final class Shell {
    record Ended(int code, String output) {
    }

    private Shell() {
    }

    /** What the command keeps for a while it must put into the folder for it. */
    static Ended run(Path where, Path forAWhile, String... command) throws IOException, InterruptedException {
        ProcessBuilder builder = new ProcessBuilder(command).directory(where.toFile()).redirectErrorStream(true);
        builder.environment().put("TMPDIR", forAWhile.toString());
        Process process = builder.start();
        process.getOutputStream().close();
        String output = new String(process.getInputStream().readAllBytes(), StandardCharsets.UTF_8);
        return new Ended(process.waitFor(), output);
    }

    static void remove(Path folder) throws IOException {
        List<Path> all = new ArrayList<>();
        try (Stream<Path> found = Files.walk(folder)) {
            found.forEach(all::add);
        }
        Collections.reverse(all);
        for (Path path : all) {
            Files.delete(path);
        }
    }
}
