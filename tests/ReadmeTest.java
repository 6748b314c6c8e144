import java.io.IOException;
import java.lang.reflect.Method;
import java.lang.reflect.Modifier;
import java.nio.file.DirectoryStream;
import java.nio.file.Files;
import java.nio.file.Path;
import java.util.ArrayList;
import java.util.List;
import java.util.TreeSet;
import java.util.regex.Matcher;
import java.util.regex.Pattern;

/** What README.md shows is true: the answers behind its calls, its table of calls, its commands, its list of tests. */
public final class ReadmeTest {
    private static final Path HERE = Path.of("");

    // The code, the answer, and words that explain it: "fabric.hops(packet);   // 3: links".
    private static final Pattern SHOWN = Pattern.compile(
        "((\\w+) (\\w+) = )?(fabric\\.\\w+\\([^;]*\\));\\s+// (throws )?(-?\\w+)(: .*)?");
    private static final Pattern ROW = Pattern.compile("(?m)^\\| `(\\w+)\\(([^)]*)\\)` \\|[^|]*\\|([^|]*)\\|$");
    private static final Pattern TEST = Pattern.compile("(?m)^- `tests/(\\w+)\\.java`:");

    private ReadmeTest() {
    }

    public static void main(String[] args) throws IOException, InterruptedException {
        String readme = Files.readString(Path.of("README.md"));
        Path forAWhile = Files.createTempDirectory("readme");
        theUse(readme, forAWhile);
        theCalls(readme);
        theCommands(readme, forAWhile);
        theTests(readme);
        Shell.remove(forAWhile);
        Checks.finish();
    }

    private static List<String> blocks(String readme, String language) {
        List<String> blocks = new ArrayList<>();
        Matcher found = Pattern.compile("(?s)```" + language + "\n(.*?)```").matcher(readme);
        while (found.find()) {
            blocks.add(found.group(1));
        }
        return blocks;
    }

    // ---- the use

    /** Makes a program of what is shown, which compares each answer with the one that is told behind the call. */
    private static void theUse(String readme, Path forAWhile) throws IOException, InterruptedException {
        StringBuilder program = new StringBuilder("public final class Shown {\n    public static void main(String[] a) {\n");
        List<String> blocks = blocks(readme, "java");
        Checks.tell(!blocks.isEmpty(), "nothing is shown of the use");
        for (String block : blocks) {
            program.append("        {\n");
            for (String line : block.split("\n")) {
                addLine(program, line);
            }
            program.append("        }\n");
        }
        program.append("        Checks.finish();\n    }\n}\n");
        Path source = forAWhile.resolve("Shown.java");
        Files.writeString(source, program);
        String classes = forAWhile.resolve("classes").toString();
        Shell.Ended compiled = Shell.run(HERE.toAbsolutePath(), forAWhile, "javac", "--release", "17", "-d", classes,
            "src/main/java/Creditfabric.java", "tests/support/Checks.java", source.toString());
        Checks.tell(compiled.code() == 0, "what is shown does not compile:\n" + compiled.output() + program);
        Shell.Ended ended = Shell.run(HERE.toAbsolutePath(), forAWhile, "java", "-cp", classes, "Shown");
        Checks.tell(ended.code() == 0, "what is shown is not what is answered:\n" + ended.output());
    }

    private static void addLine(StringBuilder program, String line) {
        Matcher shown = SHOWN.matcher(line);
        boolean isNew = line.matches("Creditfabric fabric = new Creditfabric\\(\\);(\\s+// .*)?");
        Checks.tell(isNew || shown.matches(), "a line that cannot be tried: " + line);
        if (!shown.matches()) {
            program.append(line).append('\n');
            return;
        }
        String call = shown.group(4);
        String due = shown.group(6);
        if (shown.group(5) != null) {
            program.append("Checks.throwing(\"" + call + "\", " + due + ".class, () -> " + call + ");\n");
        } else if (shown.group(1) != null) {
            program.append(shown.group(1) + call + ";\n");
            program.append("Checks.due(\"" + call + "\", \"" + due + "\", String.valueOf(" + shown.group(3) + "));\n");
        } else {
            program.append("Checks.due(\"" + call + "\", \"" + due + "\", String.valueOf(" + call + "));\n");
        }
    }

    // ---- the calls

    /** The table has each call of the face, with as many arguments and the same exceptions in the same order. */
    private static void theCalls(String readme) {
        TreeSet<String> face = new TreeSet<>();
        for (Method m : Creditfabric.class.getDeclaredMethods()) {
            if (Modifier.isPublic(m.getModifiers())) {
                List<String> thrown = new ArrayList<>();
                for (Class<?> type : m.getExceptionTypes()) {
                    thrown.add(type.getSimpleName());
                }
                face.add(m.getName() + " " + m.getParameterCount() + " " + String.join(", ", thrown));
            }
        }
        TreeSet<String> told = new TreeSet<>();
        Matcher row = ROW.matcher(readme);
        while (row.find()) {
            int count = row.group(2).isEmpty() ? 0 : row.group(2).split(", ").length;
            told.add(row.group(1) + " " + count + " " + row.group(3).strip());
        }
        Checks.due("the calls of the table", face.toString(), told.toString());
    }

    // ---- the tests

    /** All commands but .ci/run, which runs this very test; what it does is in CiRunTest. */
    private static void theCommands(String readme, Path forAWhile) throws IOException, InterruptedException {
        List<String> blocks = blocks(readme, "sh");
        Checks.due("the commands", true, blocks.remove(".ci/run\n"));
        Checks.tell(!blocks.isEmpty(), "no command runs one test");
        for (String block : blocks) {
            Shell.Ended ended = Shell.run(HERE.toAbsolutePath(), forAWhile, "bash", "-e", "-c", block);
            Checks.tell(ended.code() == 0, "a command failed:\n" + block + ended.output());
        }
    }

    private static void theTests(String readme) throws IOException {
        TreeSet<String> there = new TreeSet<>();
        try (DirectoryStream<Path> tests = Files.newDirectoryStream(Path.of("tests"), "*Test.java")) {
            for (Path test : tests) {
                there.add(test.getFileName().toString().replace(".java", ""));
            }
        }
        TreeSet<String> told = new TreeSet<>();
        Matcher test = TEST.matcher(readme);
        while (test.find()) {
            Checks.due("told but once: " + test.group(1), true, told.add(test.group(1)));
        }
        Checks.due("the tests", there.toString(), told.toString());
    }
}
