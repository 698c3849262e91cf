import java.io.IOException;
import java.nio.charset.StandardCharsets;
import java.nio.file.DirectoryStream;
import java.nio.file.Files;
import java.nio.file.Path;
import java.util.ArrayList;
import java.util.List;
import java.util.TreeSet;
import java.util.regex.Matcher;
import java.util.regex.Pattern;

/** README.md: its program compiles and prints what stands behind each of its //; its commands run; it names each test. */
public final class ReadmeTest {
    private static final String HERE = "javac -d out src/main/java/ThirdWitness.java Example.java";
    private static final String MAIN = "src/main/java/ThirdWitness.java";
    private static final Pattern SHOWN = Pattern.compile("System\\.out\\.println\\(.*\\); // (-?\\w+)");

    private ReadmeTest() {
    }

    public static void main(String[] args) throws Exception {
        String page = Files.readString(Path.of("README.md"));
        Path room = Files.createTempDirectory("readme");
        try {
            example(page, room);
        } finally {
            remove(room);
        }
        commands(page);
        testsNamed(page);
        Check.close();
    }

    /** The page's program, saved and run by the page's commands in a room that has nothing else. */
    private static void example(String page, Path room) throws Exception {
        String program = page.substring(page.indexOf("```java\n") + 8, page.indexOf("\n```\n"));
        Files.writeString(room.resolve("Example.java"), program);
        Files.createDirectories(room.resolve(MAIN).getParent());
        Files.copy(Path.of(MAIN), room.resolve(MAIN));
        Check.yes("the page tells how to compile", page.contains("    " + HERE + "\n    java -cp out Example\n"));
        StringBuilder printed = new StringBuilder();
        Check.due("compiling", run(room, printed, HERE.split(" ")), 0);
        printed.setLength(0);
        Check.due("running", run(room, printed, "java", "-cp", "out", "Example"), 0);
        List<String> got = List.of(printed.toString().split("\\R"));
        List<String> due = new ArrayList<>();
        Matcher m = SHOWN.matcher(program);
        while (m.find()) {
            due.add(m.group(1));
        }
        Check.yes("the page's lines that print say what", due.size() == program.split("println").length - 1);
        Check.yes("the program prints " + got + ", the page says " + due, got.equals(due));
    }

    /** The commands of the page's tests; the one for all of them is the one that runs this. */
    private static void commands(String page) throws Exception {
        Matcher m = Pattern.compile("(?m)^    \\.ci/run(?: (\\w+))?  ").matcher(page);
        int all = 0;
        int one = 0;
        while (m.find()) {
            if (m.group(1) == null) {
                all++;
                Check.yes(".ci/run can be run", Files.isExecutable(Path.of(".ci/run")));
            } else {
                one++;
                StringBuilder printed = new StringBuilder();
                Check.due(m.group().trim(), run(Path.of("."), printed, ".ci/run", m.group(1)), 0);
                Check.yes("one test ran: " + printed, printed.toString().contains("== " + m.group(1) + "\n")
                    && printed.toString().endsWith("\n1 passed, 0 failed\n"));
            }
        }
        Check.due("commands for all tests", all, 1);
        Check.due("commands for one test", one, 1);
    }

    private static void testsNamed(String page) throws IOException {
        TreeSet<String> named = new TreeSet<>();
        Matcher m = Pattern.compile("`([A-Z]\\w*)`").matcher(page);
        while (m.find()) {
            named.add(m.group(1) + ".java");
        }
        // names that are no tests
        named.remove("NoSuchElementException.java");
        TreeSet<String> there = new TreeSet<>();
        try (DirectoryStream<Path> files = Files.newDirectoryStream(Path.of("src/test/java"), "*.java")) {
            for (Path file : files) {
                there.add(file.getFileName().toString());
            }
        }
        Check.yes("the page names " + named + ", there are " + there, named.equals(there));
    }

    /** Runs a command in a folder: its exit code, and what it prints; what it complains of is seen at once. */
    private static int run(Path folder, StringBuilder printed, String... command) throws Exception {
        ProcessBuilder builder = new ProcessBuilder(command).directory(folder.toFile());
        builder.redirectError(ProcessBuilder.Redirect.INHERIT);
        Process process = builder.start();
        printed.append(new String(process.getInputStream().readAllBytes(), StandardCharsets.UTF_8));
        return process.waitFor();
    }

    private static void remove(Path path) throws IOException {
        if (Files.isDirectory(path)) {
            try (DirectoryStream<Path> inside = Files.newDirectoryStream(path)) {
                for (Path one : inside) {
                    remove(one);
                }
            }
        }
        Files.delete(path);
    }
}
