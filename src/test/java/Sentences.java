import java.io.IOException;
import java.nio.file.Files;
import java.nio.file.Path;
import java.util.regex.Pattern;

/**
 * Tells which sentence of the document a test is of. Each sentence must stand there, word by word,
 * in the section that is told (" [..] " stands for what is left out), and has answers that were
 * looked at; at the end no sentence of the document may be left.
 */
final class Sentences {
    private static final String LEFT_OUT = " [..] ";
    private static final String DOCUMENT = read();
    private static final boolean[] TOLD = new boolean[DOCUMENT.length()];

    private static String now = "";
    private static int askedBefore = 0;

    private Sentences() { }

    /** The tests of the sentences go on without the document; only that they are its words is open. */
    private static String read() {
        try {
            return Files.readString(Path.of("../shared/DOC.md")) + "\n## ";
        } catch (IOException e) {
            System.out.println("../shared/DOC.md can't be read: no sentence is looked up there");
            return "";
        }
    }

    /** All answers from here on, to the next sentence, are of this one. */
    static void of(String section, String sentence) {
        leave();
        mark(section, sentence);
        now = section + ", \"" + sentence + "\"";
    }

    /** A sentence that names no boundary case, or one that another test holds. */
    static void plain(String section, String sentence) {
        leave();
        mark(section, sentence);
    }

    /** The sentence that is tested, to be put ahead of a wrong answer. */
    static String now() {
        return now.isEmpty() ? "" : now + ": ";
    }

    static void end() {
        leave();
        int from = Math.max(0, DOCUMENT.indexOf("## What it is"));
        int to = DOCUMENT.indexOf("## Not promised");
        for (int at = from; at < to; at = DOCUMENT.indexOf('\n', at) + 1) {
            String left = leftOfLine(at);
            boolean isMark = left.startsWith("#") || left.startsWith("```") || left.startsWith("==");
            Check.same("no sentence without a test", "", isMark ? "" : left);
        }
    }

    private static String leftOfLine(int start) {
        StringBuilder left = new StringBuilder();
        for (int i = start; DOCUMENT.charAt(i) != '\n'; i++) {
            if (!TOLD[i]) {
                left.append(DOCUMENT.charAt(i));
            }
        }
        return left.toString().strip();
    }

    private static void leave() {
        if (!now.isEmpty()) {
            Check.same("has answers", true, Check.asked() > askedBefore);
        }
        askedBefore = Check.asked();
        now = "";
    }

    private static void mark(String section, String sentence) {
        if (DOCUMENT.isEmpty()) {
            return;
        }
        int start = sectionStart(section);
        int end = start < 0 ? -1 : DOCUMENT.indexOf("\n## ", start + 1);
        String[] parts = sentence.split(Pattern.quote(LEFT_OUT));
        int from = start < 0 ? -1 : DOCUMENT.indexOf(parts[0], start);
        int to = from;
        for (String part : parts) {
            to = to < 0 ? -1 : DOCUMENT.indexOf(part, to);
            to = to < 0 ? -1 : to + part.length();
        }
        boolean isThere = from >= 0 && to >= 0 && to <= end;
        Check.same("the document has, in " + section + ": " + sentence, true, isThere);
        for (int i = from; isThere && i < to; i++) {
            TOLD[i] = true;
        }
    }

    private static int sectionStart(String section) {
        int at = DOCUMENT.indexOf("\n## " + section + ":");
        return at >= 0 ? at : DOCUMENT.indexOf("\n## " + section + "\n");
    }
}
