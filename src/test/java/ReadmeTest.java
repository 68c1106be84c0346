import java.io.IOException;
import java.lang.reflect.Method;
import java.lang.reflect.Modifier;
import java.nio.charset.StandardCharsets;
import java.nio.file.Files;
import java.nio.file.Path;
import java.util.ArrayList;
import java.util.Comparator;
import java.util.List;
import java.util.stream.Stream;

/** What README.md says of using the class and of running its tests, done as it stands there; run in the project's folder. */
public final class ReadmeTest {
    private static final String RUN_ALL = ".ci/run";

    private static int wrong = 0;

    private static void must(boolean held, String what) {
        if (!held) {
            wrong++;
            System.out.println("README.md: " + what);
        }
    }

    // The blocks of one language, each without its fences.
    private static List<String> blocks(List<String> page, String language) {
        List<String> found = new ArrayList<>();
        StringBuilder block = null;
        for (String line : page) {
            if (block != null && line.equals("```")) {
                found.add(block.toString());
                block = null;
            } else if (block != null) {
                block.append(line).append('\n');
            } else if (line.equals("```" + language)) {
                block = new StringBuilder();
            }
        }
        must(block == null, "a block of " + language + " has no end");
        return found;
    }

    private static List<Path> under(Path folder) throws IOException {
        try (Stream<Path> all = Files.walk(folder)) {
            return all.sorted(Comparator.reverseOrder()).toList();
        }
    }

    // The commands are given in a copy, so that they leave nothing in the project's folder.
    private static Path copyOfProject() throws IOException {
        Path copy = Files.createTempDirectory("readme");
        for (Path file : under(Path.of("src"))) {
            if (Files.isRegularFile(file)) {
                Files.createDirectories(copy.resolve(file).getParent());
                Files.copy(file, copy.resolve(file));
            }
        }
        return copy;
    }

    private static String answerTo(String commands, Path folder) throws IOException, InterruptedException {
        ProcessBuilder shell = new ProcessBuilder("sh", "-e", "-c", commands);
        Process process = shell.directory(folder.toFile()).redirectErrorStream(true).start();
        String answer = new String(process.getInputStream().readAllBytes(), StandardCharsets.UTF_8);
        int code = process.waitFor();
        must(code == 0, commands + "ended with " + code + ":\n" + answer);
        return answer;
    }

    private static void commandsWork(List<String> page) throws IOException, InterruptedException {
        List<String> programs = blocks(page, "java");
        List<String> commands = blocks(page, "sh");
        List<String> outputs = blocks(page, "text");
        must(programs.size() == 1 && outputs.size() == 1, "there is one example and what it prints");
        must(commands.size() == 3, "there are commands for the example, for all tests and for one");
        must(commands.contains(RUN_ALL + "\n") && Files.isExecutable(Path.of(RUN_ALL)), RUN_ALL + " can be run");
        if (wrong != 0) {
            return;
        }
        Path folder = copyOfProject();
        Files.writeString(folder.resolve("Example.java"), programs.get(0));
        boolean printed = false;
        for (String command : commands) {
            // It is what runs this test.
            if (!command.equals(RUN_ALL + "\n")) {
                printed |= answerTo(command, folder).equals(outputs.get(0));
            }
        }
        must(printed, "the example prints something else");
        for (Path file : under(folder)) {
            Files.delete(file);
        }
    }

    private static void namesAll(String page) throws IOException {
        for (Method m : BearTickets.class.getDeclaredMethods()) {
            must(!Modifier.isPublic(m.getModifiers()) || page.contains("`" + m.getName() + "`"), m.getName() + " is not told of");
        }
        for (Path file : under(Path.of("src/test/java"))) {
            String name = file.getFileName().toString();
            must(!name.endsWith(".java") || page.contains("`" + name.replace(".java", "") + "`"), name + " is not told of");
        }
    }

    public static void main(String[] args) throws IOException, InterruptedException {
        List<String> page = Files.readAllLines(Path.of("README.md"));
        namesAll(String.join("\n", page));
        commandsWork(page);
        System.out.println(wrong == 0 ? "README.md holds" : wrong + " things of README.md do not hold");
        if (wrong != 0) {
            System.exit(1);
        }
    }
}
