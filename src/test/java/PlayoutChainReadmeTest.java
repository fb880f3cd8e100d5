import java.io.File;
import java.io.IOException;
import java.lang.reflect.Method;
import java.lang.reflect.Modifier;
import java.nio.file.Files;
import java.nio.file.Path;
import java.util.ArrayList;
import java.util.List;
import java.util.Set;
import java.util.TreeSet;
import java.util.regex.Matcher;
import java.util.regex.Pattern;
import java.util.stream.Stream;

/**
 * README.md tells the truth: its example answers as it says, and the calls, tests and files that it names are there.
 * Run from the root of the project.
 */
public final class PlayoutChainReadmeTest {
    private static final Path README = Path.of("README.md");
    private static final Path TESTS = Path.of("src/test/java");

    /** A line of the example that prints, or keeps under a name, what stands behind it. */
    private static final Pattern ANSWER =
            Pattern.compile("\\s+(?:int (\\w+) = |System\\.out\\.println).*;\\s+// ([^:]+).*");

    private static int passed = 0;
    private static int failed = 0;

    public static void main(String[] args) throws IOException, InterruptedException {
        String text = Files.readString(README);
        exampleAnswersAsItSays(Files.readAllLines(README));
        everyCallIsNamed(text);
        testsAreNamed(text);
        filesExist(text);
        System.out.println("PlayoutChainReadmeTest: " + passed + " passed, " + failed + " failed");
        if (failed != 0) {
            System.exit(1);
        }
    }

    private static void holds(boolean holds, String what) {
        if (holds) {
            passed++;
        } else {
            failed++;
            System.out.println("README.md: " + what);
        }
    }

    private static void exampleAnswersAsItSays(List<String> readme) throws IOException, InterruptedException {
        List<String> due = new ArrayList<>();
        StringBuilder program = new StringBuilder();
        boolean inExample = false;
        for (String line : readme) {
            if (line.startsWith("```")) {
                inExample = line.equals("```java");
            } else if (inExample) {
                program.append(line);
                Matcher answer = ANSWER.matcher(line);
                if (answer.matches()) {
                    due.add(answer.group(2));
                    program.append(answer.group(1) == null ? "" : "\nSystem.out.println(" + answer.group(1) + ");");
                }
                program.append('\n');
            }
        }
        List<String> printed = printedBy(program.toString());
        holds(!due.isEmpty(), "the example tells no answer");
        holds(printed.size() == due.size(), "the example prints " + printed.size() + " lines, due are " + due.size());
        for (int i = 0; i < due.size() && i < printed.size(); i++) {
            holds(printed.get(i).equals(due.get(i)),
                    "answer " + (i + 1) + " of the example is " + printed.get(i) + ", due is " + due.get(i));
        }
    }

    /** Compiles the program, whose class is Example, and runs it. */
    private static List<String> printedBy(String program) throws IOException, InterruptedException {
        Path directory = Files.createTempDirectory("readme");
        try {
            Path source = Files.writeString(directory.resolve("Example.java"), program);
            String classes = System.getProperty("java.class.path");
            linesOf("javac", "-cp", classes, "-d", directory.toString(), source.toString());
            return linesOf("java", "-cp", classes + File.pathSeparator + directory, "Example");
        } finally {
            for (File file : directory.toFile().listFiles()) {
                Files.delete(file.toPath());
            }
            Files.delete(directory);
        }
    }

    /** What a command prints; its errors go where those of the test do. */
    private static List<String> linesOf(String... command) throws IOException, InterruptedException {
        Process process = new ProcessBuilder(command).redirectError(ProcessBuilder.Redirect.INHERIT).start();
        String printed = new String(process.getInputStream().readAllBytes());
        int ended = process.waitFor();
        holds(ended == 0, command[0] + " ended with " + ended + " on the example");
        return printed.lines().toList();
    }

    private static void everyCallIsNamed(String text) {
        for (Method method : PlayoutChain.class.getDeclaredMethods()) {
            if (Modifier.isPublic(method.getModifiers())) {
                holds(text.contains("`" + method.getName() + "`"), "does not name " + method.getName());
            }
        }
    }

    private static void testsAreNamed(String text) throws IOException {
        Set<String> named = new TreeSet<>();
        Matcher name = Pattern.compile("`(PlayoutChain\\w*Test)`").matcher(text);
        while (name.find()) {
            named.add(name.group(1) + ".java");
        }
        Set<String> there = new TreeSet<>();
        try (Stream<Path> files = Files.list(TESTS)) {
            files.forEach(file -> there.add(file.getFileName().toString()));
        }
        holds(named.equals(there), "names the tests " + named + ", but there are " + there);
    }

    private static void filesExist(String text) {
        Matcher path = Pattern.compile("(?<![\\w/.])(?:src|\\.\\./shared|\\.ci)/[\\w./]*\\w").matcher(text);
        int found = 0;
        while (path.find()) {
            found++;
            holds(Files.exists(Path.of(path.group())), "there is no " + path.group());
        }
        holds(found > 0, "names no file");
    }
}
