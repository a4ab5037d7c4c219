import java.io.IOException;
import java.lang.reflect.Method;
import java.lang.reflect.Modifier;
import java.nio.file.Files;
import java.nio.file.Path;
import java.util.ArrayList;
import java.util.Comparator;
import java.util.List;
import java.util.Set;
import java.util.TreeSet;
import java.util.regex.Matcher;
import java.util.regex.Pattern;
import java.util.stream.Stream;

/** README.md: its example and its commands do what it says, and it names every call and every test. */
final class ReadmeTest {
    private static final Check CHECK = new Check("ReadmeTest");
    private static final Path TESTS = Path.of("src/test/java");

    public static void main(String[] args) throws IOException, InterruptedException {
        String readme = Files.readString(Path.of("README.md"));
        namesEveryCall(readme);
        namesEveryTest(readme);
        CHECK.due(".ci/run is there to be run", Files.isExecutable(Path.of(".ci/run")), true);
        Path place = Files.createTempDirectory("readme");
        try {
            copyTree(Path.of("src"), place.resolve("src"));
            runsTheExample(readme, place);
            runsOneTest(readme, place);
        } finally {
            removeTree(place);
        }
        CHECK.end();
    }

    private static void namesEveryCall(String readme) {
        CHECK.due("the constructor stands in a row", readme.contains("\n| `GrantNet()` |"), true);
        int calls = 0;
        for (Method m : GrantNet.class.getDeclaredMethods()) {
            if (Modifier.isPublic(m.getModifiers())) {
                calls++;
                Matcher row = Pattern.compile("(?m)^\\| `" + m.getName() + "\\(([^)]*)\\)` \\|").matcher(readme);
                boolean isThere = row.find();
                CHECK.due(m + " stands in a row", isThere, true);
                CHECK.due("parameters of " + m, isThere ? row.group(1).split(", ").length : 0, m.getParameterCount());
            }
        }
        CHECK.due("calls", calls, 13);
    }

    private static void namesEveryTest(String readme) throws IOException {
        Set<String> there = new TreeSet<>();
        try (Stream<Path> files = Files.list(TESTS)) {
            files.map(file -> file.getFileName().toString()).filter(name -> name.endsWith("Test.java"))
                .forEach(name -> there.add(name.substring(0, name.length() - ".java".length())));
        }
        Set<String> named = new TreeSet<>();
        Matcher m = Pattern.compile("`(\\w+Test)`").matcher(readme);
        while (m.find()) {
            named.add(m.group(1));
        }
        CHECK.due("tests named " + named + ", there " + there, named.equals(there), true);
    }

    private static void runsTheExample(String readme, Path place) throws IOException, InterruptedException {
        Files.writeString(place.resolve("Example.java"), block(readme, "java", 0));
        String printed = run(place, block(readme, "sh", 0), "the example");
        String want = block(readme, "text", 0);
        CHECK.due("the example printed\n" + printed, printed.equals(want), true);
    }

    private static void runsOneTest(String readme, Path place) throws IOException, InterruptedException {
        String printed = run(place, block(readme, "sh", 1), "one test by itself");
        CHECK.due("one test printed\n" + printed, printed.endsWith(", 0 wrong\n"), true);
    }

    /** The text of the k-th block of a language. */
    private static String block(String readme, String language, int k) {
        List<String> blocks = new ArrayList<>();
        Matcher m = Pattern.compile("(?s)```" + language + "\n(.*?)```").matcher(readme);
        while (m.find()) {
            blocks.add(m.group(1));
        }
        CHECK.due("there is a block " + k + " of " + language, k < blocks.size(), true);
        return k < blocks.size() ? blocks.get(k) : "";
    }

    /** What the commands print; each of them must succeed. */
    private static String run(Path place, String commands, String what) throws IOException, InterruptedException {
        ProcessBuilder builder = new ProcessBuilder("sh", "-e", "-c", commands);
        builder.directory(place.toFile()).redirectError(ProcessBuilder.Redirect.INHERIT);
        Process process = builder.start();
        String printed = new String(process.getInputStream().readAllBytes()).replace("\r", "");
        CHECK.due("exit code of " + what, process.waitFor(), 0);
        return printed;
    }

    private static void copyTree(Path from, Path to) throws IOException {
        try (Stream<Path> files = Files.walk(from)) {
            for (Path file : files.toList()) {
                Files.copy(file, to.resolve(from.relativize(file)));
            }
        }
    }

    private static void removeTree(Path place) throws IOException {
        try (Stream<Path> files = Files.walk(place)) {
            for (Path file : files.sorted(Comparator.reverseOrder()).toList()) {
                Files.delete(file);
            }
        }
    }
}
