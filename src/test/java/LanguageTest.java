import java.lang.reflect.Constructor;
import java.lang.reflect.Field;
import java.lang.reflect.Method;
import java.lang.reflect.Modifier;
import java.nio.charset.StandardCharsets;
import java.nio.file.Files;
import java.nio.file.Path;
import java.util.ArrayList;
import java.util.Arrays;
import java.util.List;
import java.util.Set;
import java.util.TreeSet;
import java.util.regex.Matcher;
import java.util.regex.Pattern;

/** The rules of LANGUAGE.md, as far as the source and the compiled classes can be asked. */
public final class LanguageTest {
    private static final Due DUE = new Due("LanguageTest");
    private static final int MOST_LINES = 60;
    private static final int MOST_FIELDS = 20;
    private static final int MOST_CLASSES = 12;
    private static final int MOST_PARAMETERS = 7;

    private LanguageTest() {
    }

    public static void main(String[] args) throws Exception {
        String source = Files.readString(Path.of("src/main/java/NoneMayLeave.java"), StandardCharsets.UTF_8);
        String doc = Files.readString(Path.of("../shared/DOC.md"), StandardCharsets.UTF_8);
        face(doc);
        classes();
        words(bare(source));
        methodLengths(source);
        signs(source);
        DUE.end();
    }

    private static String shape(Method m) {
        return m.getReturnType() + " " + m.getName() + Arrays.toString(m.getParameterTypes());
    }

    /** The methods of the document's face, and no other member that isn't private. */
    private static void face(String doc) {
        Set<String> due = new TreeSet<>();
        Matcher m = Pattern.compile("^    public (int|long) (\\w+)\\((.*)\\);$", Pattern.MULTILINE).matcher(doc);
        while (m.find()) {
            List<String> types = new ArrayList<>();
            for (String p : m.group(3).split(", ")) {
                if (!p.isEmpty()) {
                    types.add(p.split(" ")[0]);
                }
            }
            due.add(m.group(1) + " " + m.group(2) + types);
        }
        Set<String> has = new TreeSet<>();
        for (Method method : NoneMayLeave.class.getDeclaredMethods()) {
            if (Modifier.isPrivate(method.getModifiers())) {
                continue;
            }
            DUE.holds(method.getName() + " is public and no more", method.getModifiers() == Modifier.PUBLIC);
            has.add(shape(method));
        }
        DUE.is("methods of the face", has.size(), 44);
        DUE.holds("the face is the document's: " + has + " " + due, has.equals(due));
        for (Constructor<?> c : NoneMayLeave.class.getDeclaredConstructors()) {
            DUE.holds("one constructor", c.getParameterCount() == 0 && Modifier.isPublic(c.getModifiers()));
        }
        for (Field f : NoneMayLeave.class.getDeclaredFields()) {
            DUE.holds(f + " is private", f.getName().equals("NONE") || Modifier.isPrivate(f.getModifiers()));
        }
        DUE.is("public and final", NoneMayLeave.class.getModifiers(), Modifier.PUBLIC | Modifier.FINAL);
    }

    private static void classes() {
        Set<String> shown = new TreeSet<>();
        for (Method m : NoneMayLeave.class.getDeclaredMethods()) {
            if (Modifier.isPublic(m.getModifiers())) {
                shown.add(m.getName());
            }
        }
        List<Class<?>> all = new ArrayList<>(List.of(NoneMayLeave.class.getDeclaredClasses()));
        DUE.holds("few classes", all.size() <= MOST_CLASSES);
        for (Class<?> c : all) {
            DUE.holds(c + " is static", Modifier.isStatic(c.getModifiers()));
            DUE.holds(c + " is not shown", !Modifier.isPublic(c.getModifiers()) && !Modifier.isProtected(c.getModifiers()));
        }
        all.add(NoneMayLeave.class);
        for (Class<?> c : all) {
            int fields = 0;
            for (Field f : c.getDeclaredFields()) {
                boolean isStatic = Modifier.isStatic(f.getModifiers());
                fields += isStatic ? 0 : 1;
                DUE.holds(f + " is final, if static", !isStatic || Modifier.isFinal(f.getModifiers()));
            }
            DUE.holds(c + " has few fields", fields <= MOST_FIELDS);
            for (Method m : c.getDeclaredMethods()) {
                DUE.holds(m + " takes few", m.getParameterCount() <= MOST_PARAMETERS);
                boolean face = c == NoneMayLeave.class && Modifier.isPublic(m.getModifiers());
                DUE.holds(m + " has a name of its own", face || !shown.contains(m.getName()));
            }
        }
    }

    /** The source without its comments and what its texts hold. */
    private static String bare(String source) {
        return source.replaceAll("(?s)/\\*.*?\\*/", " ").replaceAll("//[^\n]*", " ")
            .replaceAll("\"[^\"\n]*\"", "\"\"").replaceAll("'[^'\n]*'", "' '");
    }

    private static void words(String bare) {
        String[] never = {"throw", "throws", "try", "catch", "finally", "synchronized", "assert", "import", "package",
            "native", "volatile", "transient", "var", "yield", "null", "while", "protected", "Object", "Exception",
            "Thread", "Random", "System\\.(?!arraycopy)\\w+", "hashCode", "toString", "String\\.\\w+"};
        for (String word : never) {
            Matcher m = Pattern.compile("(?<![\\w.])" + word + "(?!\\w)").matcher(bare);
            DUE.holds("'" + word + "' is not in the program", !m.find());
        }
        DUE.holds("no lambda", !bare.contains("->"));
        DUE.holds("no method reference", !bare.contains("::"));
        DUE.holds("no text joined by +", !Pattern.compile("\"\"\\s*\\+|\\+=?\\s*\"\"").matcher(bare).find());
        Matcher made = Pattern.compile("\\bnew (\\w+)").matcher(bare);
        Set<String> own = Set.of("Shelf", "Island", "Sets", "Council", "TextReader", "Mover", "int", "long");
        while (made.find()) {
            DUE.holds("new " + made.group(1), own.contains(made.group(1)));
        }
        Matcher used = Pattern.compile("\\b(Math|Integer|Long|Arrays|System)\\.(\\w+)").matcher(bare);
        Set<String> allowed = Set.of("Math.max", "Math.min", "Integer.bitCount", "System.arraycopy");
        while (used.find()) {
            DUE.holds(used.group(), allowed.contains(used.group()));
        }
    }

    private static void methodLengths(String source) {
        String[] lines = source.split("\n");
        Pattern head = Pattern.compile("^( {4}| {8})(?! )[\\w\\[\\]<> ]+\\([^)]*\\) \\{$");
        int methods = 0;
        for (int i = 0; i < lines.length; i++) {
            Matcher m = head.matcher(lines[i]);
            if (!m.matches()) {
                continue;
            }
            methods++;
            int end = i;
            while (end < lines.length && !lines[end].equals(m.group(1) + "}")) {
                end++;
            }
            DUE.holds("short: " + lines[i].trim(), end - i + 1 <= MOST_LINES);
        }
        DUE.holds("methods were found", methods > 100);
    }

    private static void signs(String source) {
        for (int i = 0; i < source.length(); i++) {
            if (source.charAt(i) > 126) {
                DUE.holds("sign " + (int) source.charAt(i), false);
            }
        }
        DUE.holds("signs were looked at", source.length() > 1000);
    }
}
