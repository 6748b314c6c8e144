import java.io.IOException;
import java.nio.file.Files;
import java.nio.file.Path;

/**
 * What README.md says of .ci/run, and what it must do: it compiles and runs every test of the project and every test
 * under ../shared/tests, and fails if one fails. Each time it is copied into a small checkout with tests of its own.
 */
public final class CiRunTest {
    private static final String CLASS = "public final class Creditfabric {\n    public int tick() { return 7; }\n}\n";
    private static final String PASSES = "System.out.println(\"here is NAME\");";
    private static final String FAILS = "System.out.println(\"here is NAME\"); System.exit(1);";
    private static final String THROWS = "System.out.println(\"here is NAME\"); throw new IllegalStateException();";
    private static final String IS_WRONG = "int wrong = true;";
    private static final String USES_THE_CLASS = "System.exit(new Creditfabric().tick() == 7 ? 0 : 1);";
    private static final String USES_SUPPORT = "System.exit(Helper.seven() == new Creditfabric().tick() ? 0 : 1);";
    private static final String HELPER = "final class Helper {\n    static int seven() { return 7; }\n}\n";

    private final Path folder;
    private final Path root;

    private CiRunTest(Path place) throws IOException {
        folder = place;
        root = folder.resolve("a checkout");
        Path script = root.resolve(".ci/run");
        Files.createDirectories(script.getParent());
        Files.copy(Path.of(".ci/run"), script);
        write("src/main/java/Creditfabric.java", CLASS);
    }

    public static void main(String[] args) throws IOException, InterruptedException {
        Checks.due(".ci/run is executable", true, Files.isExecutable(Path.of(".ci/run")));
        all(USES_THE_CLASS, PASSES, 0, "2 passed, 0 failed");
        all(PASSES, USES_THE_CLASS, 0, "2 passed, 0 failed");
        all(FAILS, PASSES, 1, "1 passed, 1 failed");
        all(PASSES, FAILS, 1, "1 passed, 1 failed");
        all(FAILS, FAILS, 1, "0 passed, 2 failed");
        all(THROWS, PASSES, 1, "1 passed, 1 failed");
        all(PASSES, THROWS, 1, "1 passed, 1 failed");
        all(IS_WRONG, PASSES, 1, "1 passed, 1 failed");
        all(PASSES, IS_WRONG, 1, "1 passed, 1 failed");
        support();
        severalTests();
        theClassIsWrong();
        noTests();
        Checks.finish();
    }

    private static CiRunTest checkout() throws IOException {
        return new CiRunTest(Files.createTempDirectory("ci-run"));
    }

    /** A path from the root of the checkout. */
    private CiRunTest write(String path, String text) throws IOException {
        Path file = root.resolve(path).normalize();
        Files.createDirectories(file.getParent());
        Files.writeString(file, text);
        return this;
    }

    private CiRunTest test(String path, String statements) throws IOException {
        String name = path.substring(path.lastIndexOf('/') + 1).replace(".java", "");
        return write(path, "public final class " + name + " {\n    public static void main(String[] a) {\n"
            + statements.replace("NAME", name) + "\n    }\n}\n");
    }

    /** Runs it from another directory than the root of the checkout. */
    private String run(String what, int code, String last) throws IOException, InterruptedException {
        Path forAWhile = Files.createDirectory(folder.resolve("for a while"));
        Shell.Ended ended = Shell.run(folder, forAWhile, "bash", root.resolve(".ci/run").toString());
        String[] lines = ended.output().split("\n");
        Checks.due(what + ": exit code\n" + ended.output(), code, ended.code());
        Checks.due(what + ": last line", last, lines[lines.length - 1]);
        Checks.due(what + ": it leaves nothing behind", 0, forAWhile.toFile().list().length);
        Shell.remove(folder);
        return ended.output();
    }

    private static void all(String own, String theirs, int code, String last) throws IOException, InterruptedException {
        CiRunTest checkout = checkout();
        checkout.test("tests/OwnTest.java", own).test("../shared/tests/Theirs.java", theirs);
        String output = checkout.run("tests that end with [" + own + "] and [" + theirs + "]", code, last);
        Checks.due("the own one is told", true, output.contains("== OwnTest"));
        Checks.due("that under ../shared is told", true, output.contains("== Theirs"));
        Checks.due("the own one ran", own.contains("NAME"), output.contains("here is OwnTest"));
        Checks.due("that under ../shared ran", theirs.contains("NAME"), output.contains("here is Theirs"));
    }

    private static void support() throws IOException, InterruptedException {
        CiRunTest checkout = checkout().write("tests/support/Helper.java", HELPER);
        checkout.test("tests/OwnTest.java", USES_SUPPORT).test("../shared/tests/Theirs.java", PASSES);
        checkout.run("what the own tests share", 0, "2 passed, 0 failed");
    }

    private static void severalTests() throws IOException, InterruptedException {
        CiRunTest checkout = checkout();
        checkout.test("tests/FirstTest.java", FAILS).test("tests/SecondTest.java", PASSES);
        checkout.test("../shared/tests/Third.java", FAILS).test("../shared/tests/Fourth.java", PASSES);
        String output = checkout.run("several tests", 1, "2 passed, 2 failed");
        for (String name : new String[] {"FirstTest", "SecondTest", "Third", "Fourth"}) {
            Checks.due("it ran: " + name, true, output.contains("here is " + name));
        }
    }

    private static void theClassIsWrong() throws IOException, InterruptedException {
        CiRunTest checkout = checkout().write("src/main/java/Creditfabric.java", "public final class Creditfabric {");
        checkout.test("tests/OwnTest.java", PASSES).test("../shared/tests/Theirs.java", PASSES);
        checkout.run("a class that does not compile", 1, "0 passed, 2 failed");
    }

    private static void noTests() throws IOException, InterruptedException {
        String last = "there are no tests in tests or in ../shared/tests";
        checkout().test("../shared/tests/Theirs.java", PASSES).run("no own tests", 1, last);
        checkout().test("tests/OwnTest.java", PASSES).run("no tests under ../shared", 1, last);
    }
}
