import java.io.IOException;
import java.lang.reflect.Method;
import java.lang.reflect.Modifier;
import java.nio.charset.StandardCharsets;
import java.nio.file.Files;
import java.nio.file.Path;
import java.util.ArrayList;
import java.util.Comparator;
import java.util.List;
import java.util.TreeSet;
import java.util.regex.Matcher;
import java.util.regex.Pattern;
import java.util.stream.Stream;

/** README.md holds: its program prints what it says, its commands work as they are written, and its lists are whole. */
public final class ReadmeTest {
    private static final String ALL_TESTS = ".ci/run";

    public static void main(String[] args) throws IOException, InterruptedException {
        String readme = Files.readString(Path.of("README.md"));
        Path base = Files.createTempDirectory("readme");
        try {
            commands(readme, checkout(base, readme));
        } finally {
            remove(base);
        }
        calls(readme);
        tests(readme);
        Check.end();
    }

    /** The blocks of a language, without their fences. */
    private static List<String> blocks(String readme, String language) {
        List<String> found = new ArrayList<>();
        Matcher m = Pattern.compile("(?s)```" + language + "\\n(.*?)```").matcher(readme);
        while (m.find()) {
            found.add(m.group(1));
        }
        return found;
    }

    /** A directory that looks like this one, with ../shared beside it, so that nothing is left in this one. */
    private static Path checkout(Path base, String readme) throws IOException {
        Path here = Path.of("").toAbsolutePath();
        Path copy = Files.createDirectory(base.resolve("main"));
        Files.createSymbolicLink(base.resolve("shared"), here.resolveSibling("shared"));
        Files.createSymbolicLink(copy.resolve("src"), here.resolve("src"));
        List<String> programs = blocks(readme, "java");
        Check.due("programs in README.md", programs.size(), 1);
        Files.writeString(copy.resolve("Example.java"), programs.get(0));
        return copy;
    }

    private static void commands(String readme, Path copy) throws IOException, InterruptedException {
        List<String> outputs = blocks(readme, "text");
        Check.due("what the program prints is in README.md", outputs.size(), 1);
        boolean printed = false;
        boolean named = false;
        for (String commands : blocks(readme, "sh")) {
            if (commands.strip().equals(ALL_TESTS)) {
                // It is what runs this test, so it isn't run once more.
                named = Files.isExecutable(Path.of(ALL_TESTS));
                continue;
            }
            String output = outputOf(commands, copy);
            if (commands.contains("Example")) {
                printed = true;
                Check.due("the program of README.md", output, outputs.get(0));
            }
        }
        Check.due("README.md says how the program is run", printed ? 1 : 0, 1);
        Check.due("README.md says how all tests are run", named ? 1 : 0, 1);
    }

    private static String outputOf(String commands, Path copy) throws IOException, InterruptedException {
        Process process = new ProcessBuilder("sh", "-e", "-c", commands).directory(copy.toFile())
                .redirectErrorStream(true).start();
        String output = new String(process.getInputStream().readAllBytes(), StandardCharsets.UTF_8);
        int code = process.waitFor();
        Check.due("exit code of " + commands, code, 0);
        if (code != 0) {
            System.out.println(output);
        }
        return output;
    }

    private static void remove(Path base) throws IOException {
        try (Stream<Path> paths = Files.walk(base)) {
            for (Path path : paths.sorted(Comparator.reverseOrder()).toList()) {
                Files.delete(path);
            }
        }
    }

    /** Every public method is in the list of calls, with its number of arguments, and no other one. */
    private static void calls(String readme) {
        TreeSet<String> due = new TreeSet<>();
        for (Method m : ClueParts.class.getDeclaredMethods()) {
            if (Modifier.isPublic(m.getModifiers())) {
                due.add(m.getName() + " " + m.getParameterCount());
            }
        }
        TreeSet<String> found = new TreeSet<>();
        Matcher list = Pattern.compile("(?s)### The calls\\n(.*?)\\n- ").matcher(readme);
        Check.due("README.md has a list of calls", list.find() ? 1 : 0, 1);
        Matcher m = Pattern.compile("`(\\w+)\\(([^)]*)\\)`").matcher(list.group(1));
        while (m.find()) {
            found.add(m.group(1) + " " + (m.group(2).isEmpty() ? 0 : m.group(2).split(",").length));
        }
        Check.due("the calls in README.md", found.toString(), due.toString());
    }

    private static void tests(String readme) throws IOException {
        TreeSet<String> due = new TreeSet<>();
        try (Stream<Path> files = Files.list(Path.of("src/test/java"))) {
            for (Path file : files.toList()) {
                String name = file.getFileName().toString();
                if (name.endsWith("Test.java")) {
                    due.add(name.substring(0, name.length() - ".java".length()));
                }
            }
        }
        TreeSet<String> found = new TreeSet<>();
        Matcher m = Pattern.compile("(?m)^\\| `(\\w+Test)` \\|").matcher(readme);
        while (m.find()) {
            found.add(m.group(1));
        }
        Check.due("the tests in README.md", found.toString(), due.toString());
    }
}
