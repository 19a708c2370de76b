import java.io.IOException;
import java.nio.file.Files;
import java.nio.file.Path;

/** Whether a sentence that a test is about stands where the test says, in DOC.md or LANGUAGE.md. */
final class Quotes {
    private static final String RULE = "LANGUAGE.md, rule ";
    private static final String DOCUMENT = read("../shared/DOC.md");
    private static final String RULES = read("../shared/LANGUAGE.md");

    private Quotes() {
    }

    static boolean stands(String where, String sentence) {
        return part(where).contains(sentence);
    }

    private static String part(String where) {
        if (where.startsWith(RULE)) {
            return between(RULES, "\n" + where.substring(RULE.length()) + ". ", "\n[0-9]+\\. ");
        }
        String heading = where.startsWith("Promise ") ? where + ": " : where + "\n";
        return between(DOCUMENT, "\n## " + heading, "\n## ");
    }

    private static String between(String text, String begin, String end) {
        int at = text.indexOf(begin);
        return at < 0 ? "" : text.substring(at + begin.length()).split(end, 2)[0];
    }

    private static String read(String file) {
        try {
            return Files.readString(Path.of(file));
        } catch (IOException e) {
            throw new IllegalStateException("tests are run from the project's directory, beside ../shared", e);
        }
    }
}
