import java.io.IOException;
import java.nio.charset.StandardCharsets;
import java.nio.file.Files;
import java.nio.file.Path;
import java.util.Arrays;
import java.util.function.Supplier;
import java.util.function.ToLongFunction;

/**
 * Asks the class sentence by sentence. What is quoted must stand in the document, one quote behind the other with no
 * word between them, and each must be asked of: so no sentence is left out, and a wrong answer names its sentence.
 */
final class Said {
    private static final String REST = "## Not promised";

    private final Due due;
    private final String document;
    private String section = "";
    private String head = "";
    private String words = "";
    private int at = 0;
    private int asked = 0;

    Said(String test) {
        due = new Due(test);
        document = read();
    }

    private static String read() {
        try {
            String text = Files.readString(Path.of("../shared/DOC.md"), StandardCharsets.UTF_8);
            return text.replaceAll("```\\w*", " ").replaceAll("\\s+", " ");
        } catch (IOException e) {
            throw new IllegalStateException("no document", e);
        }
    }

    // ---- where in the document

    /** The part of the document behind one mark and ahead of another is quoted from here on. */
    void between(String from, String to) {
        close();
        int start = document.indexOf(from);
        int end = document.indexOf(to, start + from.length());
        due.holds("the document has a part from '" + from + "' to '" + to + "'", start >= 0 && end > start);
        head = from;
        section = start >= 0 && end > start ? document.substring(start + from.length(), end) : "";
        at = 0;
    }

    /** What a promise says behind its method is quoted from here on. */
    void promise(int number) {
        int next = document.indexOf("## Promise " + (number + 1) + ": ");
        between("## Promise " + number + ": ", next >= 0 ? "## Promise " + (number + 1) + ": " : REST);
        head = "promise " + number;
        int behind = section.indexOf("`:");
        due.holds(head + " tells its method", behind >= 0);
        section = behind >= 0 ? section.substring(behind + 2) : section;
    }

    /** The next words of the document; what is asked until the next ones is asked of these. */
    void says(String quoted) {
        closeWords();
        words = quoted;
        asked = 0;
        int start = section.indexOf(quoted, at);
        due.holds(head + " says '" + quoted + "'", start >= 0);
        if (start >= 0) {
            skip(section.substring(at, start));
            at = start + quoted.length();
        }
    }

    private void skip(String passed) {
        boolean none = passed.chars().noneMatch(Character::isLetterOrDigit);
        due.holds(head + ": '" + passed + "' has a test", none);
    }

    private void closeWords() {
        if (!words.isEmpty()) {
            due.holds(head + ": '" + words + "' is asked of", asked > 0);
        }
        words = "";
    }

    private void close() {
        closeWords();
        skip(section.substring(at));
        at = section.length();
    }

    void end() {
        close();
        due.end();
    }

    // ---- what is asked

    void is(String call, long got, long want) {
        asked++;
        due.is(head + " '" + words + "': " + call, got, want);
    }

    void holds(String what, boolean so) {
        is(what, so ? 1 : 0, 1);
    }

    /** A call on a new object is refused: the number, counted once and as nothing else, and all else as it was. */
    void refused(Supplier<NoneMayLeave> made, String call, ToLongFunction<NoneMayLeave> asks, int no) {
        int counted = no <= -11 ? -no - 10 : -no;
        NoneMayLeave x = made.get();
        NoneMayLeave untouched = made.get();
        is(call, asks.applyAsLong(x), no);
        for (int i = 1; i <= 7; i++) {
            is(call + ": status(" + (10 + i) + ")", x.status(10 + i), untouched.status(10 + i) + (i == counted ? 1 : 0));
        }
        same(call, x, untouched);
    }

    /** A call on a new object answers so, and neither changes anything nor is counted as refused. */
    void quiet(Supplier<NoneMayLeave> made, String call, ToLongFunction<NoneMayLeave> asks, long want) {
        NoneMayLeave x = made.get();
        NoneMayLeave untouched = made.get();
        is(call, asks.applyAsLong(x), want);
        for (int i = 11; i <= 17; i++) {
            is(call + ": status(" + i + ")", x.status(i), untouched.status(i));
        }
        same(call, x, untouched);
    }

    /** Two objects show the same, and the same again by their images. */
    private void same(String call, NoneMayLeave x, NoneMayLeave y) {
        holds(call + ": all else is as it was", Arrays.equals(Made.seen(x), Made.seen(y)));
        is(call + ": an image as it was", x.restore(), y.restore());
        holds(call + ": the image is as it was", Arrays.equals(Made.seen(x), Made.seen(y)));
    }
}
