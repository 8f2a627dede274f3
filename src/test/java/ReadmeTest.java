import java.io.IOException;
import java.lang.reflect.Method;
import java.lang.reflect.Modifier;
import java.net.URL;
import java.net.URLClassLoader;
import java.nio.charset.StandardCharsets;
import java.nio.file.Files;
import java.nio.file.Path;
import java.util.ArrayList;
import java.util.List;
import java.util.regex.Matcher;
import java.util.regex.Pattern;
import java.util.stream.Stream;
import javax.tools.JavaCompiler;
import javax.tools.ToolProvider;

/** README.md: its examples are compiled as they stand and answer what they say, and nothing is left out of it. */
public final class ReadmeTest {
    private static final Due DUE = new Due("ReadmeTest");
    /** A call whose answer is told behind it, and maybe kept. */
    private static final Pattern TOLD = Pattern.compile("(?:int (\\w+) = )?(x\\.\\w+\\(.*\\)); +// (-?\\d+)\\b.*");
    private static final Pattern BLOCK = Pattern.compile("(?s)```java\n(.*?)```");

    private ReadmeTest() {
    }

    public static void main(String[] args) throws Exception {
        String readme = Files.readString(Path.of("README.md"), StandardCharsets.UTF_8);
        examples(readme);
        calls(readme);
        tests(readme);
        DUE.end();
    }

    /** What an example's call answered; the compiled examples call this. */
    public static void answered(String call, long got, long told) {
        DUE.is("README: " + call, got, told);
    }

    private static void examples(String readme) throws Exception {
        List<String> blocks = new ArrayList<>();
        Matcher block = BLOCK.matcher(readme);
        while (block.find()) {
            blocks.add(block.group(1));
        }
        DUE.holds("README has examples", blocks.size() >= 3);
        Path out = Files.createTempDirectory("readme");
        try {
            for (int i = 0; i < blocks.size(); i++) {
                run(out, "Example" + i, blocks.get(i));
            }
        } finally {
            sweep(out);
        }
    }

    private static void run(Path out, String name, String block) throws Exception {
        Path source = out.resolve(name + ".java");
        Files.writeString(source, program(name, block), StandardCharsets.UTF_8);
        JavaCompiler compiler = ToolProvider.getSystemJavaCompiler();
        int code = compiler.run(null, null, null, "-cp", System.getProperty("java.class.path"), "-d", out.toString(),
            source.toString());
        DUE.is("README: javac of example " + block, code, 0);
        if (code == 0) {
            try (URLClassLoader loader = new URLClassLoader(new URL[] {out.toUri().toURL()})) {
                loader.loadClass(name).getMethod("run").invoke(null);
            }
        }
    }

    private static String program(String name, String block) {
        StringBuilder b = new StringBuilder("public final class " + name + " {\n    public static void run() {\n");
        int told = 0;
        for (String line : block.split("\n")) {
            Matcher m = TOLD.matcher(line);
            if (!m.matches()) {
                DUE.holds("README tells what '" + line + "' answers", !line.contains("//"));
                b.append(line).append('\n');
                continue;
            }
            told++;
            String got = m.group(2);
            if (m.group(1) != null) {
                b.append("int ").append(m.group(1)).append(" = ").append(got).append(";\n");
                got = m.group(1);
            }
            b.append("ReadmeTest.answered(\"").append(m.group(2).replace("\"", "\\\"")).append("\", ").append(got)
                .append(", ").append(m.group(3)).append(");\n");
        }
        DUE.holds("README's example tells answers", told > 3);
        return b.append("    }\n}\n").toString();
    }

    private static void sweep(Path dir) throws IOException {
        try (Stream<Path> files = Files.list(dir)) {
            for (Path file : files.toList()) {
                Files.delete(file);
            }
        }
        Files.delete(dir);
    }

    /** Every call of the face stands in the table of all calls, once. */
    private static void calls(String readme) {
        int start = readme.indexOf("### All calls");
        int end = readme.indexOf("## How to run its tests");
        DUE.holds("README tells all calls ahead of the tests", start >= 0 && end > start);
        String table = start >= 0 && end > start ? readme.substring(start, end) : "";
        for (Method m : NoneMayLeave.class.getDeclaredMethods()) {
            if (Modifier.isPublic(m.getModifiers())) {
                DUE.is("README: " + m.getName(), table.split("`" + m.getName() + "`", -1).length - 1, 1);
            }
        }
    }

    /** How the tests are run, and every one of them. */
    private static void tests(String readme) throws IOException {
        DUE.holds("README tells of .ci/run", readme.contains("bash .ci/run"));
        String table = readme.substring(Math.max(0, readme.indexOf("| test | what it asks |")));
        try (Stream<Path> files = Files.list(Path.of("src/test/java"))) {
            for (Path file : files.toList()) {
                String name = file.getFileName().toString().replace(".java", "");
                if (name.endsWith("Test")) {
                    DUE.holds("README tells of " + name, Pattern.compile("\\b" + name + "\\b").matcher(table).find());
                }
            }
        }
    }
}
