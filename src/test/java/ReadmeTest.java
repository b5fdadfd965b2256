import java.io.IOException;
import java.nio.file.DirectoryStream;
import java.nio.file.Files;
import java.nio.file.Path;
import java.util.ArrayList;
import java.util.Comparator;
import java.util.List;
import java.util.regex.Matcher;
import java.util.regex.Pattern;
import java.util.stream.Stream;

/**
 * README.md followed word for word in a copy of the checkout: its Java is written to the file that
 * it names, its commands are run, and what they print must be what it says. (.ci/run, of which this
 * is a part, is not run again.)
 */
public final class ReadmeTest {
    private static final Due due = new Due("ReadmeTest");
    private static final Pattern BLOCK = Pattern.compile("```(\\w+)\\n(.*?)```", Pattern.DOTALL);

    public static void main(String[] args) throws IOException, InterruptedException {
        String page = Files.readString(Path.of("README.md"));
        Path room = Files.createTempDirectory("readme");
        try {
            Path copy = copied(room);
            follow(page, copy);
        } finally {
            remove(room);
        }
        names(page);
        due.end();
    }

    private static Path copied(Path room) throws IOException {
        Path copy = Files.createDirectory(room.resolve("main"));
        for (String name : new String[] {"src", "README.md"}) {
            try (Stream<Path> files = Files.walk(Path.of(name))) {
                for (Path file : (Iterable<Path>) files::iterator) Files.copy(file, copy.resolve(file.toString()));
            }
        }
        Path shared = Path.of("../shared");
        if (Files.exists(shared)) Files.createSymbolicLink(room.resolve("shared"), shared.toRealPath());
        return copy;
    }

    private static void follow(String page, Path copy) throws IOException, InterruptedException {
        List<String> files = new ArrayList<>();
        Matcher named = Pattern.compile("Write this as `(\\w+\\.java)`").matcher(page);
        while (named.find()) files.add(named.group(1));
        String printed = "";
        int written = 0;
        int ran = 0;
        int compared = 0;
        Matcher block = BLOCK.matcher(page);
        while (block.find()) {
            String text = block.group(2);
            switch (block.group(1)) {
                case "java":
                    Files.writeString(copy.resolve(files.get(written)), text);
                    written++;
                    break;
                case "sh":
                    if (text.equals(".ci/run\n")) {
                        due.is(".ci/run can be run", Files.isExecutable(Path.of(".ci/run")) ? 1 : 0, 1);
                        break;
                    }
                    printed = output(text, copy);
                    ran++;
                    break;
                default:
                    due.is("it prints\n" + printed + "where the page says\n" + text, printed.equals(text) ? 1 : 0, 1);
                    compared++;
            }
        }
        due.is("files written", written, files.size());
        due.is("blocks of Java, commands, prints", 100 * written + 10 * ran + compared, 121);
    }

    /** What commands print; none of them may fail. */
    private static String output(String commands, Path where) throws IOException, InterruptedException {
        Process shell = new ProcessBuilder("sh", "-e", "-c", commands).directory(where.toFile()).redirectErrorStream(true).start();
        shell.getOutputStream().close();
        String printed = new String(shell.getInputStream().readAllBytes());
        due.is("exit code of\n" + commands + printed, shell.waitFor(), 0);
        return printed;
    }

    /** Each test and each call of the face stands on the page. */
    private static void names(String page) throws IOException {
        try (DirectoryStream<Path> tests = Files.newDirectoryStream(Path.of("src/test/java"), "*Test.java")) {
            for (Path test : tests) {
                String name = test.getFileName().toString().replace(".java", "");
                due.is("the page names " + name, page.contains("`" + name + "`") ? 1 : 0, 1);
            }
        }
        for (java.lang.reflect.Method call : RockTugs.class.getDeclaredMethods()) {
            boolean open = java.lang.reflect.Modifier.isPublic(call.getModifiers());
            if (open) due.is("the page names " + call.getName(), page.contains("`" + call.getName() + "`") ? 1 : 0, 1);
        }
    }

    private static void remove(Path room) throws IOException {
        try (Stream<Path> files = Files.walk(room)) {
            for (Path file : (Iterable<Path>) files.sorted(Comparator.reverseOrder())::iterator) Files.delete(file);
        }
    }
}
