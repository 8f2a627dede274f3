import java.io.IOException;
import java.nio.charset.StandardCharsets;
import java.nio.file.Files;
import java.nio.file.Path;
import java.util.List;
import java.util.regex.Matcher;
import java.util.regex.Pattern;
import java.util.stream.Collectors;
import java.util.stream.Stream;

/** Every promise, and all of the terms, is gone through sentence by sentence in some test. */
public final class CoverTest {
    private static final Due DUE = new Due("CoverTest");
    /** The marks that lead from the terms' first word to the last one ahead of the promises. */
    private static final List<String> PARTS = List.of(
        "\"==== 1. THE ISLAND\", \"==== 2. PRICES AND DEEDS\"",
        "\"==== 2. PRICES AND DEEDS\", \"==== 3. WHAT COMES OF IT\"",
        "\"==== 3. WHAT COMES OF IT\", \"A LETTER: a ROW of words\"",
        "\"what that is; the i-th move.\", \"SHELVES 0 to 7 hold\"",
        "\"its upper 16 bits, no sign, modulo n.\", \"REFUSALS (the call answers\"",
        "\"in which they began; the first 20 are kept.\", \"## Promise 1: \"");

    private CoverTest() {
    }

    public static void main(String[] args) throws IOException {
        String tests = tests();
        String document = Files.readString(Path.of("../shared/DOC.md"), StandardCharsets.UTF_8);
        Matcher promise = Pattern.compile("^## Promise (\\d+): ", Pattern.MULTILINE).matcher(document);
        int promises = 0;
        while (promise.find()) {
            promises++;
            DUE.is("tests of promise " + promise.group(1), count(tests, "SAID.promise(" + promise.group(1) + ");"), 1);
        }
        DUE.is("promises", promises, 45);
        for (String part : PARTS) {
            DUE.is("tests of the part from " + part, count(tests, "SAID.between(" + part + ");"), 1);
        }
        DUE.end();
    }

    private static String tests() throws IOException {
        try (Stream<Path> files = Files.list(Path.of("src/test/java"))) {
            return files.filter(f -> f.toString().endsWith("Test.java")).map(CoverTest::read)
                .collect(Collectors.joining("\n"));
        }
    }

    private static String read(Path file) {
        try {
            return Files.readString(file, StandardCharsets.UTF_8);
        } catch (IOException e) {
            throw new IllegalStateException("can't be read: " + file, e);
        }
    }

    private static int count(String text, String part) {
        int n = 0;
        for (int at = text.indexOf(part); at >= 0; at = text.indexOf(part, at + 1)) {
            n++;
        }
        return n;
    }
}
