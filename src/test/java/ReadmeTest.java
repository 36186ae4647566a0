import java.nio.charset.StandardCharsets;
import java.nio.file.Files;
import java.nio.file.Path;
import java.util.Comparator;
import java.util.regex.Matcher;
import java.util.regex.Pattern;
import java.util.stream.Stream;

/**
 * Tries README.md as it stands there: its programs are written down, its commands run one after another in a copy of
 * the project's folder, and a text that follows a command is what the command has to print.
 */
public final class ReadmeTest {
    private static final Checks CHECKS = new Checks();
    private static final Pattern BLOCK = Pattern.compile("(?ms)^```(\\w+)\\n(.*?)^```$");
    private static final Pattern CLASS_NAME = Pattern.compile("public final class (\\w+)");

    private final Path folder;
    private String printed = "";
    private int programs;
    private int commands;
    private int texts;

    private ReadmeTest(Path folder) {
        this.folder = folder;
    }

    public static void main(String[] args) throws Exception {
        Path all = Files.createTempDirectory("readme");
        try {
            Path root = Path.of("").toAbsolutePath();
            Path folder = Files.createDirectory(all.resolve("main"));
            Files.createSymbolicLink(folder.resolve("src"), root.resolve("src"));
            Files.createSymbolicLink(all.resolve("shared"), root.resolveSibling("shared"));
            new ReadmeTest(folder).run(Files.readString(root.resolve("README.md"), StandardCharsets.UTF_8));
        } finally {
            delete(all);
        }
        CHECKS.end();
    }

    private void run(String readme) throws Exception {
        Matcher block = BLOCK.matcher(readme);
        while (block.find()) {
            take(block.group(1), block.group(2));
        }
        if (programs == 0 || commands == 0 || texts == 0) {
            CHECKS.report("README.md has no program, no command or no text that a command prints");
        }
    }

    private void take(String kind, String text) throws Exception {
        switch (kind) {
            case "java":
                write(text);
                break;
            case "sh":
                for (String command : text.split("\n")) {
                    execute(command);
                }
                break;
            case "text":
                texts++;
                if (!printed.equals(text)) {
                    CHECKS.report("the last command printed\n" + printed + "due is\n" + text);
                }
                break;
            default:
                CHECKS.report("README.md has a block of a kind that is not tried: " + kind);
        }
    }

    private void write(String program) throws Exception {
        programs++;
        Matcher name = CLASS_NAME.matcher(program);
        if (name.find()) {
            Files.writeString(folder.resolve(name.group(1) + ".java"), program, StandardCharsets.UTF_8);
        } else {
            CHECKS.report("a program without a class:\n" + program);
        }
    }

    private void execute(String command) throws Exception {
        commands++;
        // What a machine's settings have Java say about itself goes there, and is not compared.
        Process process = new ProcessBuilder("sh", "-c", command).directory(folder.toFile())
                .redirectError(ProcessBuilder.Redirect.INHERIT).start();
        process.getOutputStream().close();
        printed = new String(process.getInputStream().readAllBytes(), StandardCharsets.UTF_8);
        int code = process.waitFor();
        if (code != 0) {
            CHECKS.report(command + "\nended with exit code " + code + " and printed\n" + printed);
        }
    }

    /** What is deeper goes first; links are not followed, so nothing of the project's own is touched. */
    private static void delete(Path all) throws Exception {
        try (Stream<Path> paths = Files.walk(all)) {
            for (Path path : paths.sorted(Comparator.reverseOrder()).toList()) {
                Files.delete(path);
            }
        }
    }
}
