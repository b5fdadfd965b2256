import java.io.IOException;
import java.nio.file.DirectoryStream;
import java.nio.file.Files;
import java.nio.file.Path;
import java.util.Arrays;
import java.util.regex.Matcher;
import java.util.regex.Pattern;

/**
 * Every sentence that a test says it holds to stands in the document, and there is no sentence of
 * its Terms and promises that no test names. (The face is held by FaceTest.)
 */
public final class DocTest {
    private static final Due due = new Due("DocTest");
    private static final Pattern SAYS = Pattern.compile("due\\.says\\(\"((?:[^\"\\\\]|\\\\.)*)\"\\)");
    /** Headings, and what says nothing that a call could break. */
    private static final String[] NO_SENTENCES = {"^.*?## Terms", "======== \\d", "\\([a-d]\\) ", "Ahead of the calls .*?(?=## Promise 1:)", "## Promise \\d+: [^`]*`[^`]*`:", "## Not promised.*$"};

    public static void main(String[] args) throws IOException {
        Path file = Path.of("../shared/DOC.md");
        if (!Files.isReadable(file)) {
            System.out.println("DocTest: there is no " + file + " to hold the tests against");
            return;
        }
        String text = Files.readString(file).replace("```text", "").replace("```", "").replaceAll("\\s+", " ");
        boolean[] named = new boolean[text.length()];
        try (DirectoryStream<Path> tests = Files.newDirectoryStream(Path.of("src/test/java"), "*Test.java")) {
            for (Path test : tests) names(test, text, named);
        }
        promises(text, named);
        for (String pattern : NO_SENTENCES) {
            Matcher part = Pattern.compile(pattern).matcher(text);
            while (part.find()) Arrays.fill(named, part.start(), part.end(), true);
        }
        allNamed(text, named);
        due.end();
    }

    private static void names(Path test, String text, boolean[] named) throws IOException {
        Matcher says = SAYS.matcher(Files.readString(test));
        while (says.find()) {
            String sentence = says.group(1);
            int at = text.indexOf(sentence);
            due.is(test.getFileName() + " names what the document does not say: " + sentence, at < 0 ? 1 : 0, 0);
            for (; at >= 0; at = text.indexOf(sentence, at + 1)) Arrays.fill(named, at, at + sentence.length(), true);
        }
    }

    private static void promises(String text, boolean[] named) {
        int many = 0;
        Matcher promise = Pattern.compile("## Promise (\\d+): .*?(?=## )").matcher(text);
        while (promise.find()) {
            boolean has = false;
            for (int i = promise.start(); i < promise.end(); i++) has |= named[i];
            due.is("a test names a sentence of promise " + promise.group(1), has ? 1 : 0, 1);
            many++;
        }
        due.is("promises", many, 39);
    }

    private static void allNamed(String text, boolean[] named) {
        StringBuilder part = new StringBuilder();
        for (int i = 0; i <= text.length(); i++) {
            if (i < text.length() && !named[i]) {
                part.append(text.charAt(i));
                continue;
            }
            if (Pattern.compile("\\w").matcher(part).find()) due.is("tests that name \"" + part.toString().trim() + "\"", 0, 1);
            part.setLength(0);
        }
    }
}
